/-! calls that write a copy, a tag, a vendor's text -/
section PO2
variable {s : GS} {M : fMem}
/-- a copy written alike on both sides -/
theorem Gd.copy {In : Int → Prop} {d5 d6 : fMem → fOp} {M M1 M2 : fMem} {s : GS} (hC : RelC s M) (hM : RelM s M) (hI : Inv s) {v : Int} {c f : Nat} (hc : c < 3) (hf : f < 4) {e o m t : Int} (h5 : d5 M = some (v, M1)) (h6 : d6 M1 = some (v, M2)) (hv : In v)
    (hf5 : ∀ q j, q ≠ 47 + (4 * c + f) → M1 q j = M q j) (hv5 : M1 (47 + (4 * c + f)) 0 = e ∧ M1 (47 + (4 * c + f)) 1 = o ∧ M1 (47 + (4 * c + f)) 2 = m ∧ M1 (47 + (4 * c + f)) 3 = t)
    (hf6 : ∀ q j, ¬ (128 ≤ q ∧ q ≤ 131 ∧ j = 4 * c + f) → M2 q j = M1 q j) (hv6 : M2 128 (4 * c + f) = e ∧ M2 129 (4 * c + f) = o ∧ M2 130 (4 * c + f) = m ∧ M2 131 (4 * c + f) = t) (hci : CI (gso s) (gF s f) e o m t) : Gd In d5 d6 M :=
  ⟨v, M1, M2, wC s (4 * c + f) e o m t, h5, h6, hv, (hC.wC (by omega) hv5 hf5).fr (fun q k hq => hf6 q k (by omega)), (hM.fr (fun q k h1 h2 => hf5 q k (by omega))).wC hv6 hf6, hI.wC hc hf hci⟩
theorem gd_edit (hC : RelC s M) (hM : RelM s M) (hI : Inv s) {a1 a2 t : Int} (h1 : InI a1) (h2 : InI a2) (h3 : InL t) : Gd InI (dn_X5_edit a1 a2 t) (dn_X6_edit a1 a2 t) M := by
  rcases pair_cases a1 a2 with h | ⟨c, f, rfl, rfl, hc, hf⟩
  · exact Gd.same hC hM hI (v := 0) (by rw [dn_X5_edit]; exact (open5_no h1 h2 h M _ _).trans (fRz_0 M)) (by rw [dn_X6_edit]; exact (open6_no h1 h2 h M _ _).trans (fRz_0 M)) (by omega)
  · have hk := hC.2.2 (4 * c + f) (by omega)
    have hk6 := hM.2.2 (4 * c + f) (by omega)
    by_cases hT : gen s (4 * c + f) ≠ -1 ∧ gou s (4 * c + f) = 0
    · by_cases ht : 0 ≤ t ∧ okR 12 t.toNat = true
      · refine Gd.copy (v := 1) (c := c) (f := f) (e := gen s (4 * c + f)) (o := gou s (4 * c + f)) (m := t) (t := gsk s (4 * c + f)) (M1 := fup M (47 + (4 * c + f)) 2 t) (M2 := fup (fup M (47 + (4 * c + f)) 2 t) 130 (4 * c + f) t) hC hM hI hc hf ?_ ?_ (by omega) (fun q j hq => fup_ne (by omega)) ⟨?_, ?_, ?_, ?_⟩ (fun q j hq => fup_ne (by omega)) ⟨?_, ?_, ?_, ?_⟩ ?_
        · rw [dn_X5_edit]
          refine (open5 hc hf M _ _).trans ((copy5 hc hf M _).trans ?_)
          rw [e_Cl (ev_hasText5 hC hI hc hf), fEq_b2, if_pos hT, e_Cl (ev_isText h3 M), fEq_b2, if_pos ht, fPt, fRz_1]
        · rw [dn_X6_edit]
          refine (open6 hc hf _ _ _).trans ?_
          rw [e_Cl (ev_hasLocal6 (hM.fr (fun q k h1 h2 => fup_ne (by omega))) hI hc hf), fEq_b2, if_pos hT, e_Cl (ev_noText h3 _), fEq_b2, if_neg (fun q => q ht), e_Wr (4 * c + f) (by omega) (by omega), fRz_1]
        · rw [fup_ne (by omega)]; exact hk.1
        · rw [fup_ne (by omega)]; exact hk.2.1
        · rw [fup_self]
        · rw [fup_ne (by omega)]; exact hk.2.2.2
        · rw [fup_ne (by omega), fup_ne (by omega)]; exact hk6.1
        · rw [fup_ne (by omega), fup_ne (by omega)]; exact hk6.2.1
        · rw [fup_self]
        · rw [fup_ne (by omega), fup_ne (by omega)]; exact hk6.2.2.2
        · obtain ⟨i1, i2, i3, i4⟩ := hI.2.2 c f hc hf
          exact ⟨i1, i2, ⟨ht.1, by omega, ht.2⟩, i4⟩
      · refine Gd.same hC hM hI (v := 0) ?_ ?_ (by omega)
        · rw [dn_X5_edit]
          refine (open5 hc hf M _ _).trans ((copy5 hc hf M _).trans ?_)
          rw [e_Cl (ev_hasText5 hC hI hc hf), fEq_b2, if_pos hT, e_Cl (ev_isText h3 M), fEq_b2, if_neg ht, fRz_0]
        · rw [dn_X6_edit]
          refine (open6 hc hf _ _ _).trans ?_
          rw [e_Cl (ev_hasLocal6 hM hI hc hf), fEq_b2, if_pos hT, e_Cl (ev_noText h3 _), fEq_b2, if_pos ht, fRz_0]
    · refine Gd.same hC hM hI (v := 0) ?_ ?_ (by omega)
      · rw [dn_X5_edit]
        refine (open5 hc hf M _ _).trans ((copy5 hc hf M _).trans ?_)
        rw [e_Cl (ev_hasText5 hC hI hc hf), fEq_b2, if_neg hT, fRz_0]
      · rw [dn_X6_edit]
        refine (open6 hc hf _ _ _).trans ?_
        rw [e_Cl (ev_hasLocal6 hM hI hc hf), fEq_b2, if_neg hT, fRz_0]
theorem gd_remove (hC : RelC s M) (hM : RelM s M) (hI : Inv s) {a1 a2 : Int} (h1 : InI a1) (h2 : InI a2) : Gd InI (dn_X5_remove a1 a2) (dn_X6_remove a1 a2) M := by
  rcases pair_cases a1 a2 with h | ⟨c, f, rfl, rfl, hc, hf⟩
  · exact Gd.same hC hM hI (v := 0) (by rw [dn_X5_remove]; exact (open5_no h1 h2 h M _ _).trans (fRz_0 M)) (by rw [dn_X6_remove]; exact (open6_no h1 h2 h M _ _).trans (fRz_0 M)) (by omega)
  · have hk := hC.2.2 (4 * c + f) (by omega)
    have hk6 := hM.2.2 (4 * c + f) (by omega)
    have hin := hI.en_in hc hf
    obtain ⟨i1, i2, i3, i4⟩ := hI.2.2 c f hc hf
    by_cases hT : gen s (4 * c + f) ≠ -1 ∧ gou s (4 * c + f) = 0
    · by_cases hr : 0 ≤ gen s (4 * c + f)
      · refine Gd.copy (v := 1) (c := c) (f := f) (e := gen s (4 * c + f)) (o := 1) (m := gmi s (4 * c + f)) (t := gsk s (4 * c + f)) (M1 := fup M (47 + (4 * c + f)) 1 1) (M2 := fup (fup M (47 + (4 * c + f)) 1 1) 129 (4 * c + f) 1) hC hM hI hc hf ?_ ?_ (by omega) (fun q j hq => fup_ne (by omega)) ⟨?_, ?_, ?_, ?_⟩ (fun q j hq => fup_ne (by omega)) ⟨?_, ?_, ?_, ?_⟩ ⟨i1, by omega, i3, i4⟩
        · rw [dn_X5_remove]
          refine (open5 hc hf M _ _).trans ((copy5 hc hf M _).trans ?_)
          rw [e_Cl (ev_hasText5 hC hI hc hf), fEq_b2, if_pos hT, e_Cl (ev_hasRev5 hC hI hc hf), fEq_b2, if_pos hr, dn_X0_markGone, e_Pz (by omega), fCl_some, fRz_1]
        · have hM1 : RelM s (fup M (47 + (4 * c + f)) 1 1) := hM.fr (fun q k h1 h2 => fup_ne (by omega))
          rw [dn_X6_remove]
          refine (open6 hc hf _ _ _).trans ?_
          rw [e_Cl (ev_hasLocal6 hM1 hI hc hf), fEq_b2, if_pos hT, e_Rd (4 * c + f) (by omega) (by omega), (hM1.2.2 _ (by omega)).1, e_Eqf ⟨hin.1, by omega⟩ (by omega), e_Wz (4 * c + f) (by omega) (by omega) (by omega), fRz_1]
        · rw [fup_ne (by omega)]; exact hk.1
        · rw [fup_self]
        · rw [fup_ne (by omega)]; exact hk.2.2.1
        · rw [fup_ne (by omega)]; exact hk.2.2.2
        · rw [fup_ne (by omega), fup_ne (by omega)]; exact hk6.1
        · rw [fup_self]
        · rw [fup_ne (by omega), fup_ne (by omega)]; exact hk6.2.2.1
        · rw [fup_ne (by omega), fup_ne (by omega)]; exact hk6.2.2.2
      · refine Gd.copy (v := 1) (c := c) (f := f) (e := -1) (o := 0) (m := gmi s (4 * c + f)) (t := gsk s (4 * c + f)) (M1 := fup (fup M (47 + (4 * c + f)) 0 (-1)) (47 + (4 * c + f)) 1 0) (M2 := fup (fup (fup M (47 + (4 * c + f)) 0 (-1)) (47 + (4 * c + f)) 1 0) 128 (4 * c + f) (-1)) hC hM hI hc hf ?_ ?_ (by omega) (fun q j hq => by rw [fup_ne (by omega), fup_ne (by omega)]) ⟨?_, ?_, ?_, ?_⟩ (fun q j hq => fup_ne (by omega)) ⟨?_, ?_, ?_, ?_⟩ ⟨Or.inl rfl, by omega, i3, i4⟩
        · rw [dn_X5_remove]
          refine (open5 hc hf M _ _).trans ((copy5 hc hf M _).trans ?_)
          rw [e_Cl (ev_hasText5 hC hI hc hf), fEq_b2, if_pos hT, e_Cl (ev_hasRev5 hC hI hc hf), fEq_b2, if_neg hr, e_Cl (ev_drop M _), fRz_1]
        · have hM1 : RelM s (fup (fup M (47 + (4 * c + f)) 0 (-1)) (47 + (4 * c + f)) 1 0) := hM.fr (fun q k h1 h2 => by rw [fup_ne (by omega), fup_ne (by omega)])
          rw [dn_X6_remove]
          refine (open6 hc hf _ _ _).trans ?_
          rw [e_Cl (ev_hasLocal6 hM1 hI hc hf), fEq_b2, if_pos hT, e_Rd (4 * c + f) (by omega) (by omega), (hM1.2.2 _ (by omega)).1, e_Eqt ⟨hin.1, by omega⟩ (by omega), e_Wr (4 * c + f) (by omega) (by omega), fRz_1]
        · rw [fup_ne (by omega), fup_self]
        · rw [fup_self]
        · rw [fup_ne (by omega), fup_ne (by omega)]; exact hk.2.2.1
        · rw [fup_ne (by omega), fup_ne (by omega)]; exact hk.2.2.2
        · rw [fup_self]
        · rw [fup_ne (by omega), fup_ne (by omega), fup_ne (by omega)]; exact hk6.2.1.trans hT.2
        · rw [fup_ne (by omega), fup_ne (by omega), fup_ne (by omega)]; exact hk6.2.2.1
        · rw [fup_ne (by omega), fup_ne (by omega), fup_ne (by omega)]; exact hk6.2.2.2
    · refine Gd.same hC hM hI (v := 0) ?_ ?_ (by omega)
      · rw [dn_X5_remove]
        refine (open5 hc hf M _ _).trans ((copy5 hc hf M _).trans ?_)
        rw [e_Cl (ev_hasText5 hC hI hc hf), fEq_b2, if_neg hT, fRz_0]
      · rw [dn_X6_remove]
        refine (open6 hc hf _ _ _).trans ?_
        rw [e_Cl (ev_hasLocal6 hM hI hc hf), fEq_b2, if_neg hT, fRz_0]
/-! what a tag selects -/
theorem ev_selectedBy5 {P : Nat} {A : FS} {so : Nat → Int} (hR : RC P A M) (hI : AI A so) (hS : ∀ t, t < 5 → M 59 t = so t ∧ 0 ≤ so t ∧ so t ≤ 2) {t : Int} (ht : t = -1 ∨ (0 ≤ t ∧ t < 5)) : dn_X5_selectedBy P t M = some (selA A so t, M) := by
  have h := hI.1
  have hd := hI.2.2.2.2.2.2.2.2.1
  rw [dn_X5_selectedBy, e_Cl (ev_isThere hR hI), fEq_b2]
  unfold selA
  by_cases h0 : sn A = 0
  · rw [if_neg (by omega), if_pos h0]
  · rw [if_pos (by omega), if_neg h0, e_Eq ⟨by omega, by omega⟩]
    by_cases h1 : t = -1
    · obtain ⟨d, hd'⟩ := Int.eq_ofNat_of_zero_le hd.1
      rw [if_pos h1, if_pos h1, fGt, hR.1.2.2.2, hd', e_Cl (ev_tip hR (by omega) hI)]
      unfold tipOf
      rw [← hd', if_neg (hI.2.2.2.2.2.2.2.2.2.2.2.2 (by omega))]
    · rw [if_neg h1, if_neg h1]
      obtain ⟨x, rfl⟩ := Int.eq_ofNat_of_zero_le (show 0 ≤ t by omega)
      have hn := hI.2.2.2.2.2.2.2.2.2.1 x (by omega)
      have hs := hS x (by omega)
      rw [e_Rd x rfl (by omega), hR.2.2.2.2.1 x (by omega), e_Eq ⟨by omega, by omega⟩, Int.toNat_natCast]
      by_cases h2 : snm A x = -1
      · rw [if_pos h2, if_pos (Or.inl h2)]
      · rw [if_neg h2, e_Rd x rfl (by omega), hs.1, e_Eq ⟨by omega, by omega⟩]
        by_cases h3 : so x = 1
        · rw [if_pos h3, if_pos (Or.inr h3)]
        · rw [if_neg h3, if_neg (by rintro (q | q) <;> contradiction)]
          obtain ⟨w, hw⟩ := Int.eq_ofNat_of_zero_le (show 0 ≤ snm A x by omega)
          rw [hw, e_Cl (ev_tip hR (by omega) hI), Int.toNat_natCast]
theorem selA_in {A : FS} {so : Nat → Int} (hI : AI A so) {t : Int} (ht : t = -1 ∨ (0 ≤ t ∧ t < 5)) : selA A so t = -1 ∨ (0 ≤ selA A so t ∧ selA A so t < (sn A : Int)) := by
  unfold selA
  split
  · exact Or.inl rfl
  · split
    · rcases lst_in (sho A) (sd A) (sn A) with q | ⟨r, q, q1, -⟩
      · exact Or.inl q
      · rw [q]; omega
    · have hn := hI.2.2.2.2.2.2.2.2.2.1 t.toNat (by omega)
      split
      · omega
      · rename_i hno
        exact tipOf_in hI (by omega) (Nat.le_refl _)
theorem RelC.sorts (hC : RelC s M) (hI : Inv s) : ∀ t, t < 5 → M 59 t = gso s t ∧ 0 ≤ gso s t ∧ gso s t ≤ 2 := fun t ht => ⟨hC.2.1 t ht, by have := hI.2.1 t ht; omega, by have := hI.2.1 t ht; omega⟩
theorem RelM.sorts (hM : RelM s M) (hI : Inv s) : ∀ t, t < 5 → M 126 t = gso s t ∧ 0 ≤ gso s t ∧ gso s t ≤ 2 := fun t ht => ⟨hM.2.1 t ht, by have := hI.2.1 t ht; omega, by have := hI.2.1 t ht; omega⟩
theorem gd_selected (hC : RelC s M) (hM : RelM s M) (hI : Inv s) {a1 a2 : Int} (h1 : InI a1) (h2 : InI a2) : Gd InI (dn_X5_selected a1 a2) (dn_X6_selected a1 a2) M := by
  rcases pair_cases a1 a2 with h | ⟨c, f, rfl, rfl, hc, hf⟩
  · exact Gd.same hC hM hI (v := -1) (by rw [dn_X5_selected]; exact open5_no h1 h2 h M _ _) (by rw [dn_X6_selected]; exact open6_no h1 h2 h M _ _) (by omega)
  · have hA := hI.1 f hf
    have h5 := hA.1
    have ht : gsk s (4 * c + f) = -1 ∨ (0 ≤ gsk s (4 * c + f) ∧ gsk s (4 * c + f) < 5) := by have := (hI.2.2 c f hc hf).2.2.2; omega
    have hin := selA_in hA ht
    refine Gd.same hC hM hI (v := selA (gF s f) (gso s) (gsk s (4 * c + f))) ?_ ?_ (by omega)
    · rw [dn_X5_selected]
      refine (open5 hc hf M _ _).trans ?_
      rw [e_Ix f rfl (by omega)]
      refine (copy5 hc hf M _).trans ?_
      rw [fGt, (hC.2.2 _ (by omega)).2.2.2, e_Cl (ev_selectedBy5 (hC.1 f hf) hA (hC.sorts hI) ht)]
    · rw [dn_X6_selected]
      refine (open6 hc hf M _ _).trans ?_
      rw [e_Rd (4 * c + f) (by omega) (by omega), (hM.2.2 _ (by omega)).2.2.2, e_Cl (ev_selectedBy6 hf (hM.1 f hf) hA (hM.sorts hI) ht)]
end PO2
