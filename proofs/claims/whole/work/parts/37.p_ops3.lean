/-! tag and bring -/
section PO3
variable {s : GS} {M : fMem}
theorem ifc {α : Type} {c d : Prop} [Decidable c] [Decidable d] {x y : α} (h : c ↔ d) : (if c then x else y) = if d then x else y := by
  by_cases hc : c
  · rw [if_pos hc, if_pos (h.1 hc)]
  · rw [if_neg hc, if_neg (fun q => hc (h.2 q))]
theorem frP.up {P : Nat} {M M1 : fMem} (h : frP P M M1) (hP : P + 10 < 60) {q : Nat} (hq : 60 ≤ q) (k : Nat) : M1 q k = M q k := h q k (by omega)
theorem frM.lo {f : Nat} {M M1 : fMem} (h : frM f M M1) {q : Nat} (hq : q < 116) (k : Nat) : M1 q k = M q k := h q k (by unfold inF; omega)
theorem Gd.file {In : Int → Prop} {d5 d6 : fMem → fOp} {M M1 M2 : fMem} {s : GS} (hC : RelC s M) (hM : RelM s M) (hI : Inv s) {v : Int} {f : Nat} {A : FS} (hf : f < 4) (h5 : d5 M = some (v, M1)) (h6 : d6 M1 = some (v, M2)) (hv : In v) (r5 : RC (2 + 11 * f) A M1) (f5 : frP (2 + 11 * f) M M1) (r6 : RM f A M2) (f6 : frM f M1 M2) (ha : AI A (gso s)) (hn : sn (gF s f) ≤ sn A) : Gd In d5 d6 M :=
  ⟨v, M1, M2, wF s f A, h5, h6, hv, (hC.wF hf r5 f5).fr (fun q k hq => f6.lo (by omega) k), (hM.fr (fun q k h1 h2 => f5 q k (by omega))).wF hf r6 f6, hI.wF ha hn⟩
/-- what a tagging asks -/
abbrev tOK (s : GS) (c f t : Nat) (a4 k : Int) : Prop := 0 ≤ gen s (4 * c + f) ∧ (gso s t = 0 ∨ gso s t = k) ∧ (a4 = 0 ∨ (snm (gF s f) t = -1 ∧ sb (gF s f) < 5))
theorem ev_tag5a (hC : RelC s M) (hI : Inv s) {c f t : Nat} (hc : c < 3) (hf : f < 4) (ht : t < 5) {a4 k a1 a2 : Int} (h4 : InI a4) (hk : k = 1 ∨ k = 2) : dn_X5_tag_J49 (47 + (4 * c + f)) (2 + 11 * f) a1 a2 (t : Int) a4 k M = if tOK s c f t a4 k then dn_X5_tag_J109 (47 + (4 * c + f)) (2 + 11 * f) a1 a2 (t : Int) a4 k M else some (0, M) := by
  have hA := hI.1 f hf
  have hso := hI.2.1 t ht
  have hn := hA.2.2.2.2.2.2.2.2.2.1 t ht
  have h5 := hA.1
  have e81 : dn_X5_tag_J81 (47 + (4 * c + f)) (2 + 11 * f) a1 a2 (t : Int) a4 k M = if (a4 = 0 ∨ (snm (gF s f) t = -1 ∧ sb (gF s f) < 5)) then dn_X5_tag_J109 (47 + (4 * c + f)) (2 + 11 * f) a1 a2 (t : Int) a4 k M else some (0, M) := by
    rw [dn_X5_tag_J81, e_Eq ⟨h4, by omega⟩]
    by_cases c3 : a4 = 0
    · rw [if_pos c3, if_pos (Or.inl c3)]
    · rw [if_neg c3, e_Rd t rfl (by omega), (hC.1 f hf).2.2.2.2.1 t ht, e_Eq ⟨by omega, by omega⟩]
      by_cases c4 : snm (gF s f) t = -1
      · rw [if_pos c4, e_Cl (ev_hasRoom (hC.1 f hf) hA (by omega) (by omega)), fEq_b2, fRz_0]
        exact ifc ⟨fun q => Or.inr ⟨c4, by omega⟩, fun q => by omega⟩
      · rw [if_neg c4, if_neg (by omega), fRz_0]
  rw [dn_X5_tag_J49, e_Cl (ev_hasRev5 hC hI hc hf), fEq_b2]
  by_cases c1 : 0 ≤ gen s (4 * c + f)
  · rw [if_pos c1, e_Rd t rfl (by omega), hC.2.1 t ht, e_Eq ⟨by omega, by omega⟩, e_Rd t rfl (by omega), hC.2.1 t ht, e_Eq ⟨by omega, by omega⟩, e81, fRz_0]
    by_cases c2 : gso s t = 0
    · rw [if_pos c2]
      exact ifc ⟨fun q => ⟨c1, Or.inl c2, q⟩, fun q => q.2.2⟩
    · rw [if_neg c2]
      by_cases c3 : gso s t = k
      · rw [if_pos c3]
        exact ifc ⟨fun q => ⟨c1, Or.inr c3, q⟩, fun q => q.2.2⟩
      · rw [if_neg c3, if_neg (show ¬ tOK s c f t a4 k from fun q => q.2.1.elim c2 c3)]
  · rw [if_neg c1, if_neg (show ¬ tOK s c f t a4 k from fun q => c1 q.1), fRz_0]
theorem ev_tag6a (hM : RelM s M) (hI : Inv s) {c f t : Nat} (hc : c < 3) (hf : f < 4) (ht : t < 5) {a4 k : Int} (h4 : InI a4) (hk : k = 1 ∨ k = 2) (hk4 : k = if a4 = 0 then 1 else 2) : dn_X6_tag (c : Int) (f : Int) (t : Int) a4 M = if tOK s c f t a4 k then dn_X6_tag_J106 (c : Int) (f : Int) (t : Int) a4 k (if snm (gF s f) t = -1 then 0 else 1) M else some (0, M) := by
  have hA := hI.1 f hf
  have hso := hI.2.1 t ht
  have hn := hA.2.2.2.2.2.2.2.2.2.1 t ht
  have h5 := hA.1
  have hin := hI.en_in hc hf
  have e84 : ∀ a6 : Int, a6 = (if snm (gF s f) t = -1 then 0 else 1) → dn_X6_tag_J84 (c : Int) (f : Int) (t : Int) a4 k a6 M = if (a4 = 0 ∨ (snm (gF s f) t = -1 ∧ sb (gF s f) < 5)) then dn_X6_tag_J106 (c : Int) (f : Int) (t : Int) a4 k (if snm (gF s f) t = -1 then 0 else 1) M else some (0, M) := by
    intro a6 h6
    subst h6
    rw [dn_X6_tag_J84, e_Eq ⟨h4, by omega⟩]
    by_cases c3 : a4 = 0
    · rw [if_pos c3, if_pos (Or.inl c3)]
    · rw [if_neg c3]
      by_cases c4 : snm (gF s f) t = -1
      · rw [if_pos c4, e_Eqt ⟨by omega, by omega⟩ rfl, e_Rd f rfl (by omega), (hM.1 f hf).1.2.1, e_Eq ⟨by omega, by omega⟩, fRz_0]
        by_cases c5 : (sb (gF s f) : Int) = 5
        · rw [if_pos c5, if_neg (by omega)]
        · rw [if_neg c5, if_pos (Or.inr ⟨c4, by omega⟩)]
      · rw [if_neg c4, e_Eqf ⟨by omega, by omega⟩ (by omega), if_neg (by omega), fRz_0]
  have e62 : ∀ a6 : Int, a6 = (if snm (gF s f) t = -1 then 0 else 1) → 0 ≤ gen s (4 * c + f) → dn_X6_tag_J62 (c : Int) (f : Int) (t : Int) a4 k a6 M = if tOK s c f t a4 k then dn_X6_tag_J106 (c : Int) (f : Int) (t : Int) a4 k (if snm (gF s f) t = -1 then 0 else 1) M else some (0, M) := by
    intro a6 h6 c1
    rw [dn_X6_tag_J62, e_Rd t rfl (by omega), hM.2.1 t ht, e_Eq ⟨by omega, by omega⟩, e_Rd t rfl (by omega), hM.2.1 t ht, e_Eq ⟨by omega, by omega⟩, e84 a6 h6, fRz_0]
    by_cases c2 : gso s t = 0
    · rw [if_pos c2]
      exact ifc ⟨fun q => ⟨c1, Or.inl c2, q⟩, fun q => q.2.2⟩
    · rw [if_neg c2]
      by_cases c3 : gso s t = k
      · rw [if_pos c3]
        exact ifc ⟨fun q => ⟨c1, Or.inr c3, q⟩, fun q => q.2.2⟩
      · rw [if_neg c3, if_neg (show ¬ tOK s c f t a4 k from fun q => q.2.1.elim c2 c3)]
  have e41 : 0 ≤ gen s (4 * c + f) → dn_X6_tag_J41 (c : Int) (f : Int) (t : Int) a4 k M = if tOK s c f t a4 k then dn_X6_tag_J106 (c : Int) (f : Int) (t : Int) a4 k (if snm (gF s f) t = -1 then 0 else 1) M else some (0, M) := by
    intro c1
    rw [dn_X6_tag_J41, e_Rd (5 * f + t) (by omega) (by omega), (hM.1 f hf).2.2.2 t ht, e_Eq ⟨by omega, by omega⟩]
    by_cases c4 : snm (gF s f) t = -1
    · rw [if_pos c4, e62 0 (if_pos c4).symm c1]
    · rw [if_neg c4, e62 1 (if_neg c4).symm c1]
  rw [dn_X6_tag]
  refine (open6 hc hf _ _ _).trans ?_
  rw [e_Cl (ev_below6 (by omega) (by omega) M), fEq_b2, if_pos (by omega), e_Rd (4 * c + f) (by omega) (by omega), (hM.2.2 _ (by omega)).1, e_Le ⟨by omega, hin.1⟩]
  by_cases c1 : 0 ≤ gen s (4 * c + f)
  · rw [if_pos c1, e_Eq ⟨h4, by omega⟩]
    by_cases c3 : a4 = 0
    · rw [if_pos c3, ← e41 c1, hk4, if_pos c3]
    · rw [if_neg c3, ← e41 c1, hk4, if_neg c3]
  · rw [if_neg c1, if_neg (show ¬ tOK s c f t a4 k from fun q => c1 q.1), fRz_0]
theorem gd_tag (hC : RelC s M) (hM : RelM s M) (hI : Inv s) {a1 a2 a3 a4 : Int} (h1 : InI a1) (h2 : InI a2) (h3 : InI a3) (h4 : InI a4) : Gd InI (dn_X5_tag a1 a2 a3 a4) (dn_X6_tag a1 a2 a3 a4) M := by
  rcases pair_cases a1 a2 with h | ⟨c, f, rfl, rfl, hc, hf⟩
  · exact Gd.same hC hM hI (v := 0) (by rw [dn_X5_tag]; exact (open5_no h1 h2 h M _ _).trans (fRz_0 M)) (by rw [dn_X6_tag]; exact (open6_no h1 h2 h M _ _).trans (fRz_0 M)) (by omega)
  · by_cases ht3 : 0 ≤ a3 ∧ a3 < 5
    · obtain ⟨t, rfl⟩ := Int.eq_ofNat_of_zero_le ht3.1
      have ht : t < 5 := by omega
      have hA := hI.1 f hf
      have hgen := hI.2.2 c f hc hf
      have hin := hI.en_in hc hf
      have h5 := hA.1
      generalize hkk : (if a4 = 0 then 1 else 2 : Int) = k
      have hk : k = 1 ∨ k = 2 := by rw [← hkk]; split <;> omega
      have e5 : dn_X5_tag (c : Int) (f : Int) (t : Int) a4 M = if tOK s c f t a4 k then dn_X5_tag_J109 (47 + (4 * c + f)) (2 + 11 * f) (c : Int) (f : Int) (t : Int) a4 k M else some (0, M) := by
        rw [← ev_tag5a hC hI hc hf ht h4 hk, dn_X5_tag]
        refine (open5 hc hf M _ _).trans ?_
        rw [e_Cl (ev_isTag h3 M), fEq_b2, if_pos ht3]
        refine (copy5 hc hf M _).trans ?_
        rw [e_Ix f rfl (by omega), e_Eq ⟨h4, by omega⟩, ← hkk]
        split <;> rfl
      by_cases hok : tOK s c f t a4 k
      · rw [if_pos hok] at e5
        obtain ⟨b, hb⟩ := Int.eq_ofNat_of_zero_le hok.1
        have hbn : b < sn (gF s f) := by have := hgen.1; omega
        have hS : Inv (wS s t k) := hI.wS hk hok.2.1
        have hAS : AI (gF s f) (gso (wS s t k)) := hS.1 f hf
        have hkt : gso (wS s t k) t = k := pup_s _ _ _
        have hC1 : RelC (wS s t k) (fup M 59 t k) := hC.wS t k
        have hk1 := hC1.2.2 (4 * c + f) (by omega)
        by_cases c3 : a4 = 0
        · have hk1' : k = 1 := by rw [← hkk, if_pos c3]
          have hA' : AI (fNam (gF s f) t (b : Int)) (gso (wS s t k)) := hAS.nam (Or.inl ⟨by rw [hkt, hk1'], by omega, by omega⟩)
          have r5 : dn_X5_tag (c : Int) (f : Int) (t : Int) a4 M = some (1, fup (fup M 59 t k) (2 + 11 * f + 10) t (b : Int)) := by
            rw [e5, dn_X5_tag_J109, e_Wr t rfl (by omega), e_Eqt ⟨h4, by omega⟩ c3, fGt, hk1.1, dn_X5_tag_J146, e_Wr t rfl (by omega), fRz_1]
            show some (1, fup (fup M 59 t k) (2 + 11 * f + 10) t (gen s (4 * c + f))) = _
            rw [hb]
          have hM1 : RelM s (fup (fup M 59 t k) (2 + 11 * f + 10) t (b : Int)) := hM.fr (fun q k h1 h2 => by rw [fup_ne (by omega), fup_ne (by omega)])
          have hC2 : RelC (wF (wS s t k) f (fNam (gF s f) t (b : Int))) (fup (fup M 59 t k) (2 + 11 * f + 10) t (b : Int)) := hC1.wF hf ((hC1.1 f hf).nam t _) (fun q k hq => fup_ne (by omega))
          have r6 : ∀ N, RelM s N → dn_X6_tag (c : Int) (f : Int) (t : Int) a4 N = some (1, fup (fup N 126 t k) 127 (5 * f + t) (b : Int)) := by
            intro N hN
            rw [ev_tag6a hN hI hc hf ht h4 hk hkk.symm, if_pos hok, dn_X6_tag_J106, e_Rd (4 * c + f) (by omega) (by omega), (hN.2.2 _ (by omega)).1, e_Wr t rfl (by omega), e_Eqt ⟨h4, by omega⟩ c3, dn_X6_tag_J159, e_Wr (5 * f + t) (by omega) (by omega), fRz_1, hb]
          refine ⟨1, _, _, wF (wS s t k) f (fNam (gF s f) t (b : Int)), r5, r6 _ hM1, by omega, hC2.fr (fun q k hq => by rw [fup_ne (by omega), fup_ne (by omega)]), ?_, hS.wF hA' (Nat.le_refl _)⟩
          exact (hM1.wS t k).wF hf (((hM1.wS t k).1 f hf).nam t _) (frM.one (by unfold inF; omega))
        · have hk1' : k = 2 := by rw [← hkk, if_neg c3]
          have hsb : sb (gF s f) < 5 := by have := hok.2.2; omega
          have hA0 : AI (fOpn (gF s f) (b : Int) (newMg (gF s f) (b : Int))) (gso (wS s t k)) := hAS.opn hsb hbn
          have hA' : AI (fNam (fOpn (gF s f) (b : Int) (newMg (gF s f) (b : Int))) t ((sb (gF s f) + 1 : Nat) : Int)) (gso (wS s t k)) := hA0.nam (Or.inr ⟨by rw [hkt, hk1'], by omega, Int.le_refl _⟩)
          have hRC : RC (2 + 11 * f) (gF s f) (fup M 59 t k) := hC1.1 f hf
          obtain ⟨N, n1, n2, n3⟩ := ev_openBranch hRC hAS hbn hsb
          have r5 : dn_X5_tag (c : Int) (f : Int) (t : Int) a4 M = some (1, fup N (2 + 11 * f + 10) t ((sb (gF s f) + 1 : Nat) : Int)) := by
            rw [e5, dn_X5_tag_J109, e_Wr t rfl (by omega), e_Eqf ⟨h4, by omega⟩ c3, fGt, hk1.1]
            show fCl (dn_X2_openBranch (2 + 11 * f) (gen s (4 * c + f)) (fup M 59 t k)) _ = _
            rw [hb, e_Cl n1, dn_X5_tag_J146, e_Wr t rfl (by omega), fRz_1]
          have hfr : frP (2 + 11 * f) (fup M 59 t k) (fup N (2 + 11 * f + 10) t ((sb (gF s f) + 1 : Nat) : Int)) := n3.trans (fun q k hq => fup_ne (by omega))
          have hM1 : RelM s (fup N (2 + 11 * f + 10) t ((sb (gF s f) + 1 : Nat) : Int)) := hM.fr (fun q k h1 h2 => by rw [hfr q k (by omega), fup_ne (by omega)])
          have hC2 : RelC (wF (wS s t k) f (fNam (fOpn (gF s f) (b : Int) (newMg (gF s f) (b : Int))) t ((sb (gF s f) + 1 : Nat) : Int))) (fup N (2 + 11 * f + 10) t ((sb (gF s f) + 1 : Nat) : Int)) := hC1.wF hf (n2.nam t _) hfr
          have hMS := hM1.wS t k
          have hRM : RM f (gF s f) (fup (fup N (2 + 11 * f + 10) t ((sb (gF s f) + 1 : Nat) : Int)) 126 t k) := hMS.1 f hf
          obtain ⟨N2, m1, m2, m3⟩ := ev_branchAt6 (p := (b : Int)) (m := newMg (gF s f) (b : Int)) hf hRM hsb
          have r6 : dn_X6_tag (c : Int) (f : Int) (t : Int) a4 (fup N (2 + 11 * f + 10) t ((sb (gF s f) + 1 : Nat) : Int)) = some (1, fup N2 127 (5 * f + t) ((sb (gF s f) + 1 : Nat) : Int)) := by
            rw [ev_tag6a hM1 hI hc hf ht h4 hk hkk.symm, if_pos hok, dn_X6_tag_J106, e_Rd (4 * c + f) (by omega) (by omega), (hM1.2.2 _ (by omega)).1, e_Wr t rfl (by omega), e_Eqf ⟨h4, by omega⟩ c3, hb]
            show fCl (dn_X6_freeMagic (f : Int) (b : Int) _) _ = _
            rw [e_Cl (ev_freeMagic6 hf hRM hAS (show b < 24 by omega)), e_Cl m1, dn_X6_tag_J159, e_Wr (5 * f + t) (by omega) (by omega), fRz_1]
          have hfr6 : frM f (fup (fup N (2 + 11 * f + 10) t ((sb (gF s f) + 1 : Nat) : Int)) 126 t k) (fup N2 127 (5 * f + t) ((sb (gF s f) + 1 : Nat) : Int)) := m3.trans (frM.one (by unfold inF; omega))
          refine ⟨1, _, _, wF (wS s t k) f (fNam (fOpn (gF s f) (b : Int) (newMg (gF s f) (b : Int))) t ((sb (gF s f) + 1 : Nat) : Int)), r5, r6, by omega, hC2.fr (fun q k hq => by rw [hfr6.lo (by omega), fup_ne (by omega)]), ?_, hS.wF hA' (Nat.le_refl _)⟩
          exact hMS.wF hf (m2.nam t _) hfr6
      · rw [if_neg hok] at e5
        refine Gd.same hC hM hI e5 ?_ (by omega)
        rw [ev_tag6a hM hI hc hf ht h4 hk hkk.symm, if_neg hok]
    · refine Gd.same hC hM hI (v := 0) ?_ ?_ (by omega)
      · rw [dn_X5_tag]
        refine (open5 hc hf M _ _).trans ?_
        rw [e_Cl (ev_isTag h3 M), fEq_b2, if_neg ht3, fRz_0]
      · rw [dn_X6_tag]
        refine (open6 hc hf M _ _).trans ?_
        rw [e_Cl (ev_below6 h3 (by omega) M), fEq_b2, if_neg ht3, fRz_0]
end PO3
