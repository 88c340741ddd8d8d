/-! commit -/
section PO6
variable {s : GS} {M : fMem}
theorem some_if {c : Prop} [Decidable c] (a b : Int) (M : fMem) : (if c then some (a, M) else some (b, M) : fOp) = some (if c then a else b, M) := by
  by_cases h : c
  · rw [if_pos h, if_pos h]
  · rw [if_neg h, if_neg h]
/-- why a commit is refused, 0 where it isn't -/
def bar90 (A : FS) (t : Int) : Int := if t = -1 then (if (sn A : Int) + 1 ≤ 24 ∧ (sb A : Int) + 1 + 0 ≤ 6 then 0 else -7) else if (sn A : Int) + (if sn A = 0 then 2 else 1) ≤ 24 ∧ (sb A : Int) + 1 + (if snm A t.toNat = -1 then 1 else 0) ≤ 6 then 0 else -7
def bar70 (A : FS) (o m t : Int) : Int := if o = 0 ∧ mkR 12 m.toNat = true then -6 else bar90 A t
def bar33 (A : FS) (e o m t r : Int) : Int := if (0 ≤ e ∧ e ≠ r) ∨ (¬ 0 ≤ e ∧ (r ≠ -1 ∧ sdd A r.toNat = 0)) then -4 else if 0 ≤ e ∧ o = 0 ∧ m = stx A e.toNat then -5 else bar70 A o m t
def bar (s : GS) (c f : Nat) : Int := if gen s (4 * c + f) = -1 then -1 else if gsk s (4 * c + f) ≠ -1 ∧ gso s (gsk s (4 * c + f)).toNat = 1 then -3 else bar33 (gF s f) (gen s (4 * c + f)) (gou s (4 * c + f)) (gmi s (4 * c + f)) (gsk s (4 * c + f)) (selA (gF s f) (gso s) (gsk s (4 * c + f)))
theorem ev_room5 (hC : RelC s M) (hI : Inv s) {c f : Nat} (hc : c < 3) (hf : f < 4) : dn_X5_commitRefusal_J90 (47 + (4 * c + f)) (2 + 11 * f) M = some (bar90 (gF s f) (gsk s (4 * c + f)), M) := by
  have hk := hC.2.2 (4 * c + f) (by omega)
  have hin := hI.en_in hc hf
  have hA := hI.1 f hf
  have hR := hC.1 f hf
  have h5 := hA.1
  obtain ⟨-, -, -, i4⟩ := hI.2.2 c f hc hf
  unfold bar90
  rw [dn_X5_commitRefusal_J90, dn_X5_hasRoomToCommit, fGt, hk.2.2.2, e_Eq ⟨hin.2.2.1, by omega⟩]
  by_cases ht : gsk s (4 * c + f) = -1
  · rw [if_pos ht, if_pos ht, e_Cl (ev_hasRoom hR hA (by omega) (by omega)), fRz_b2, fCl_some, fEq_b2]
    exact some_if _ _ _
  · obtain ⟨t, hh⟩ := Int.eq_ofNat_of_zero_le (show 0 ≤ gsk s (4 * c + f) by omega)
    have htl : t < 5 := by omega
    have hn := hA.2.2.2.2.2.2.2.2.2.1 t htl
    have j27 : ∀ x : Int, 0 ≤ x ∧ x < 10 → dn_X5_hasRoomToCommit_J27 (47 + (4 * c + f)) (2 + 11 * f) x M = some (b2 ((sn (gF s f) : Int) + x ≤ 24 ∧ (sb (gF s f) : Int) + 1 + (if snm (gF s f) t = -1 then 1 else 0) ≤ 6), M) := by
      intro x hx
      rw [dn_X5_hasRoomToCommit_J27, fGt, hk.2.2.2, hh, e_Rd t rfl (by omega), hR.2.2.2.2.1 t htl, e_Eq ⟨by omega, by omega⟩]
      by_cases hm : snm (gF s f) t = -1
      · rw [if_pos hm, dn_X5_hasRoomToCommit_J46, e_Cl (ev_hasRoom hR hA hx (by omega)), fRz_b2, if_pos hm]
      · rw [if_neg hm, dn_X5_hasRoomToCommit_J46, e_Cl (ev_hasRoom hR hA hx (by omega)), fRz_b2, if_neg hm]
    rw [if_neg ht, if_neg ht, e_Cl (ev_isThere hR hA), fEq_b2, j27 1 (by omega), j27 2 (by omega), hh, Int.toNat_natCast]
    by_cases h0 : sn (gF s f) = 0
    · rw [if_neg (by omega), if_pos h0, fCl_some, fEq_b2]
      exact some_if _ _ _
    · rw [if_pos (by omega), if_neg h0, fCl_some, fEq_b2]
      exact some_if _ _ _
theorem ev_room6 (hM : RelM s M) (hI : Inv s) {c f : Nat} (hc : c < 3) (hf : f < 4) (a2 a3 a5 : Int) : dn_X6_bars_J120 (f : Int) a2 a3 (gsk s (4 * c + f)) a5 M = some (bar90 (gF s f) (gsk s (4 * c + f)), M) := by
  have hin := hI.en_in hc hf
  have hA := hI.1 f hf
  have hR := hM.1 f hf
  have h5 := hA.1
  obtain ⟨-, -, -, i4⟩ := hI.2.2 c f hc hf
  have j166 : ∀ (a4 a6 x : Int), 0 ≤ a6 ∧ a6 < 10 → (x = 0 ∨ x = 1) → dn_X6_bars_J166 (f : Int) a2 a3 a4 a5 a6 x M = some (if (sn (gF s f) : Int) + a6 ≤ 24 ∧ (sb (gF s f) : Int) + 1 + x ≤ 6 then 0 else -7, M) := by
    intro a4 a6 x h6 hx
    rw [dn_X6_bars_J166, e_Rd f rfl hf, hR.1.1, e_Lt ⟨by omega, by omega⟩, dn_X6_bars_J197, e_Eq ⟨by omega, by omega⟩, e_Rd f rfl hf, hR.1.2.1, e_Eq ⟨by omega, by omega⟩]
    by_cases c1 : (24 : Int) < (sn (gF s f) : Int) + a6
    · rw [if_pos c1, if_neg (by omega)]
    · rw [if_neg c1]
      by_cases c2 : x = 0
      · rw [if_pos c2, if_pos (by omega)]
      · rw [if_neg c2]
        by_cases c3 : (sb (gF s f) : Int) = 5
        · rw [if_pos c3, if_neg (by omega)]
        · rw [if_neg c3, if_pos (by omega)]
  unfold bar90
  rw [dn_X6_bars_J120, e_Lt ⟨hin.2.2.1, by omega⟩]
  by_cases ht : gsk s (4 * c + f) = -1
  · rw [if_pos (by omega), if_pos ht, dn_X6_bars_J138, dn_X6_bars_J139, e_Ltt ⟨hin.2.2.1, by omega⟩ (by omega), dn_X6_bars_J165, j166 _ _ _ (by omega) (by omega)]
  · obtain ⟨t, hh⟩ := Int.eq_ofNat_of_zero_le (show 0 ≤ gsk s (4 * c + f) by omega)
    have htl : t < 5 := by omega
    have hn := hA.2.2.2.2.2.2.2.2.2.1 t htl
    have j139 : ∀ x : Int, 0 ≤ x ∧ x < 10 → dn_X6_bars_J139 (f : Int) a2 a3 (gsk s (4 * c + f)) a5 x M = some (if (sn (gF s f) : Int) + x ≤ 24 ∧ (sb (gF s f) : Int) + 1 + (if snm (gF s f) t = -1 then 1 else 0) ≤ 6 then 0 else -7, M) := by
      intro x hx
      rw [dn_X6_bars_J139, e_Ltf ⟨hin.2.2.1, by omega⟩ (by omega), e_Rd (5 * f + t) (by omega) (by omega), hR.2.2.2 t htl, e_Eq ⟨by omega, by omega⟩]
      by_cases hm : snm (gF s f) t = -1
      · rw [if_pos hm, j166 _ _ _ hx (by omega), if_pos hm]
      · rw [if_neg hm, dn_X6_bars_J165, j166 _ _ _ hx (by omega), if_neg hm]
    rw [if_neg (by omega), if_neg ht, e_Rd f rfl hf, hR.1.1, e_Eq ⟨by omega, by omega⟩, dn_X6_bars_J138, j139 1 (by omega), j139 2 (by omega), hh, Int.toNat_natCast]
    by_cases h0 : sn (gF s f) = 0
    · rw [if_pos (by omega), if_pos h0]
    · rw [if_neg (by omega), if_neg h0]
theorem ev_refuse5 (hC : RelC s M) (hI : Inv s) {c f : Nat} (hc : c < 3) (hf : f < 4) : dn_X5_commitRefusal (47 + (4 * c + f)) (2 + 11 * f) M = some (bar s c f, M) := by
  have hk := hC.2.2 (4 * c + f) (by omega)
  have hin := hI.en_in hc hf
  have hA := hI.1 f hf
  have hR := hC.1 f hf
  have h5 := hA.1
  obtain ⟨i1, i2, i3, i4⟩ := hI.2.2 c f hc hf
  have hmi := i3.1
  have hsk : gsk s (4 * c + f) = -1 ∨ (0 ≤ gsk s (4 * c + f) ∧ gsk s (4 * c + f) < 5) := by omega
  have hsel := selA_in hA hsk
  unfold bar
  rw [dn_X5_commitRefusal, e_Cl (ev_hasEntry5 hC hI hc hf), fEq_b2]
  by_cases he : gen s (4 * c + f) = -1
  · rw [if_neg (fun q => q he), if_pos he]
  · have j70 : dn_X5_commitRefusal_J70 (47 + (4 * c + f)) (2 + 11 * f) M = some (bar70 (gF s f) (gou s (4 * c + f)) (gmi s (4 * c + f)) (gsk s (4 * c + f)), M) := by
      unfold bar70
      rw [dn_X5_commitRefusal_J70, e_Cl (ev_hasText5 hC hI hc hf), fEq_b2, ev_room5 hC hI hc hf, fGt, hk.2.2.1, e_Cl (ev_hasMarks ⟨hmi, hin.2.2.2⟩ M), fEq_b2, ev_room5 hC hI hc hf]
      by_cases q0 : gou s (4 * c + f) = 0
      · rw [if_pos ⟨he, q0⟩]
        by_cases q1 : mkR 12 (gmi s (4 * c + f)).toNat = true
        · rw [if_pos q1, if_pos ⟨q0, q1⟩]
        · rw [if_neg q1, if_neg (fun q => q1 q.2)]
      · rw [if_neg (fun q => q0 q.2), if_neg (fun q => q0 q.1)]
    have j33 : dn_X5_commitRefusal_J33 (47 + (4 * c + f)) (2 + 11 * f) M = some (bar33 (gF s f) (gen s (4 * c + f)) (gou s (4 * c + f)) (gmi s (4 * c + f)) (gsk s (4 * c + f)) (selA (gF s f) (gso s) (gsk s (4 * c + f))), M) := by
      have st : dn_X5_isStale (47 + (4 * c + f)) (2 + 11 * f) M = some (b2 ((0 ≤ gen s (4 * c + f) ∧ gen s (4 * c + f) ≠ selA (gF s f) (gso s) (gsk s (4 * c + f))) ∨ (¬ 0 ≤ gen s (4 * c + f) ∧ (selA (gF s f) (gso s) (gsk s (4 * c + f)) ≠ -1 ∧ sdd (gF s f) (selA (gF s f) (gso s) (gsk s (4 * c + f))).toNat = 0))), M) := by
        rw [dn_X5_isStale, fGt, hk.2.2.2, e_Cl (ev_selectedBy5 hR hA (hC.sorts hI) hsk), e_Cl (ev_hasRev5 hC hI hc hf), fEq_b2, fGt, hk.1, e_Eq ⟨hin.1, by omega⟩, e_Cl (ev_isAlive hR hA hsel), fRz_b2, fRz_0, fRz_1]
        by_cases g0 : 0 ≤ gen s (4 * c + f)
        · rw [if_pos g0]
          by_cases g1 : gen s (4 * c + f) = selA (gF s f) (gso s) (gsk s (4 * c + f))
          · rw [if_pos g1, b2_f (by rintro (q | q); exact q.2 g1; exact q.1 g0)]
          · rw [if_neg g1, b2_t (Or.inl ⟨g0, g1⟩)]
        · rw [if_neg g0]
          congr 2
          exact b2_congr ⟨fun q => Or.inr ⟨g0, q⟩, fun q => q.elim (fun z => absurd z.1 g0) (fun z => z.2)⟩
      unfold bar33
      rw [dn_X5_commitRefusal_J33, e_Cl st, fEq_b2]
      by_cases c1 : (0 ≤ gen s (4 * c + f) ∧ gen s (4 * c + f) ≠ selA (gF s f) (gso s) (gsk s (4 * c + f))) ∨ (¬ 0 ≤ gen s (4 * c + f) ∧ (selA (gF s f) (gso s) (gsk s (4 * c + f)) ≠ -1 ∧ sdd (gF s f) (selA (gF s f) (gso s) (gsk s (4 * c + f))).toNat = 0))
      · rw [if_pos c1, if_pos c1]
      · rw [if_neg c1, if_neg c1, e_Cl (ev_hasRev5 hC hI hc hf), fEq_b2, fGt, hk.2.1, e_Eq ⟨hin.2.1, by omega⟩, j70]
        by_cases g0 : 0 ≤ gen s (4 * c + f)
        · rw [if_pos g0, e_Cl (ev_isModified5 hC hI hc hf g0), fEq_b2, j70]
          by_cases q0 : gou s (4 * c + f) = 0
          · rw [if_pos q0]
            by_cases q1 : gmi s (4 * c + f) = stx (gF s f) (gen s (4 * c + f)).toNat
            · rw [if_neg (fun q => q q1), if_pos ⟨g0, q0, q1⟩]
            · rw [if_pos q1, if_neg (fun q => q1 q.2.2)]
          · rw [if_neg q0, if_neg (fun q => q0 q.2.1)]
        · rw [if_neg g0, if_neg (fun q => g0 q.1)]
    rw [if_pos he, if_neg he, fGt, hk.2.2.2, e_Eq ⟨hin.2.2.1, by omega⟩, fGt, hk.2.2.2, j33]
    by_cases ht : gsk s (4 * c + f) = -1
    · rw [if_pos ht, if_neg (fun q => q.1 ht)]
    · have hs := hI.2.1 (gsk s (4 * c + f)).toNat (by omega)
      rw [if_neg ht, e_Rd (gsk s (4 * c + f)).toNat (by omega) (by omega), hC.2.1 _ (by omega), e_Eq ⟨by omega, by omega⟩]
      by_cases h1 : gso s (gsk s (4 * c + f)).toNat = 1
      · rw [if_pos h1, if_pos ⟨ht, h1⟩]
      · rw [if_neg h1, if_neg (fun q => h1 q.2)]
theorem ev_bars6 (hM : RelM s M) (hI : Inv s) {c f : Nat} (hc : c < 3) (hf : f < 4) (he : ¬ gen s (4 * c + f) = -1) : dn_X6_bars (f : Int) ((4 * (c : Int)) + (f : Int)) M = some (bar s c f, M) := by
  have hk := hM.2.2 (4 * c + f) (by omega)
  have hin := hI.en_in hc hf
  have hA := hI.1 f hf
  have hR := hM.1 f hf
  have h5 := hA.1
  obtain ⟨i1, i2, i3, i4⟩ := hI.2.2 c f hc hf
  have hmi := i3.1
  have hsk : gsk s (4 * c + f) = -1 ∨ (0 ≤ gsk s (4 * c + f) ∧ gsk s (4 * c + f) < 5) := by omega
  have hsel := selA_in hA hsk
  have j96 : ∀ a5 : Int, dn_X6_bars_J96 (f : Int) ((4 * (c : Int)) + (f : Int)) (gen s (4 * c + f)) (gsk s (4 * c + f)) a5 M = some (bar70 (gF s f) (gou s (4 * c + f)) (gmi s (4 * c + f)) (gsk s (4 * c + f)), M) := by
    intro a5
    unfold bar70
    rw [dn_X6_bars_J96, e_Rd (4 * c + f) (by omega) (by omega), hk.2.1, e_Eq ⟨hin.2.1, by omega⟩, e_Rd (4 * c + f) (by omega) (by omega), hk.2.2.1, e_Cl (ev_hasMarks6 hin.2.2.2 ⟨hmi, i3.2.2⟩ M), fEq_b2, ev_room6 hM hI hc hf]
    by_cases q0 : gou s (4 * c + f) = 0
    · rw [if_pos q0]
      by_cases q1 : mkR 12 (gmi s (4 * c + f)).toNat = true
      · rw [if_pos q1, if_pos ⟨q0, q1⟩]
      · rw [if_neg q1, if_neg (fun q => q1 q.2)]
    · rw [if_neg q0, if_neg (fun q => q0 q.1)]
  have j71 : ∀ a5 : Int, dn_X6_bars_J71 (f : Int) ((4 * (c : Int)) + (f : Int)) (gen s (4 * c + f)) (gsk s (4 * c + f)) a5 M = some (if 0 ≤ gen s (4 * c + f) ∧ gou s (4 * c + f) = 0 ∧ gmi s (4 * c + f) = stx (gF s f) (gen s (4 * c + f)).toNat then -5 else bar70 (gF s f) (gou s (4 * c + f)) (gmi s (4 * c + f)) (gsk s (4 * c + f)), M) := by
    intro a5
    rw [dn_X6_bars_J71, e_Lt ⟨hin.1, by omega⟩, j96, e_Rd (4 * c + f) (by omega) (by omega), hk.2.1, e_Eq ⟨hin.2.1, by omega⟩]
    by_cases g0 : 0 ≤ gen s (4 * c + f)
    · rw [if_neg (by omega), e_Cl (ev_modified6 hM hI hc hf g0), fEq_b2, j96]
      by_cases q0 : gou s (4 * c + f) = 0
      · rw [if_pos q0]
        by_cases q1 : gmi s (4 * c + f) = stx (gF s f) (gen s (4 * c + f)).toNat
        · rw [if_neg (fun q => q.2 q1), if_pos ⟨g0, q0, q1⟩]
        · rw [if_pos ⟨q0, q1⟩, if_neg (fun q => q1 q.2.2)]
      · rw [if_neg q0, if_neg (fun q => q0 q.2.1)]
    · rw [if_pos (by omega), if_neg (fun q => g0 q.1)]
  have j43 : dn_X6_bars_J43 (f : Int) ((4 * (c : Int)) + (f : Int)) (gen s (4 * c + f)) (gsk s (4 * c + f)) (selA (gF s f) (gso s) (gsk s (4 * c + f))) M = some (bar33 (gF s f) (gen s (4 * c + f)) (gou s (4 * c + f)) (gmi s (4 * c + f)) (gsk s (4 * c + f)) (selA (gF s f) (gso s) (gsk s (4 * c + f))), M) := by
    unfold bar33
    rw [dn_X6_bars_J43, e_Eq ⟨hin.1, by omega⟩, e_Cl (ev_noneOrDead6 hf hR hA hsel), fEq_b2, e_Eq ⟨hin.1, by omega⟩, j71]
    by_cases g0 : 0 ≤ gen s (4 * c + f)
    · rw [if_neg (show ¬ gen s (4 * c + f) = -2 by omega)]
      by_cases g1 : gen s (4 * c + f) = selA (gF s f) (gso s) (gsk s (4 * c + f))
      · rw [if_pos g1, if_neg (show ¬ ((0 ≤ gen s (4 * c + f) ∧ gen s (4 * c + f) ≠ selA (gF s f) (gso s) (gsk s (4 * c + f))) ∨ (¬ 0 ≤ gen s (4 * c + f) ∧ (selA (gF s f) (gso s) (gsk s (4 * c + f)) ≠ -1 ∧ sdd (gF s f) (selA (gF s f) (gso s) (gsk s (4 * c + f))).toNat = 0))) by rintro (q | q); exact q.2 g1; exact q.1 g0)]
      · rw [if_neg g1, if_pos (show ((0 ≤ gen s (4 * c + f) ∧ gen s (4 * c + f) ≠ selA (gF s f) (gso s) (gsk s (4 * c + f))) ∨ (¬ 0 ≤ gen s (4 * c + f) ∧ (selA (gF s f) (gso s) (gsk s (4 * c + f)) ≠ -1 ∧ sdd (gF s f) (selA (gF s f) (gso s) (gsk s (4 * c + f))).toNat = 0))) from Or.inl ⟨g0, g1⟩)]
    · rw [if_pos (show gen s (4 * c + f) = -2 by omega)]
      by_cases al : selA (gF s f) (gso s) (gsk s (4 * c + f)) ≠ -1 ∧ sdd (gF s f) (selA (gF s f) (gso s) (gsk s (4 * c + f))).toNat = 0
      · rw [if_neg (fun q => q al), if_pos (show ((0 ≤ gen s (4 * c + f) ∧ gen s (4 * c + f) ≠ selA (gF s f) (gso s) (gsk s (4 * c + f))) ∨ (¬ 0 ≤ gen s (4 * c + f) ∧ (selA (gF s f) (gso s) (gsk s (4 * c + f)) ≠ -1 ∧ sdd (gF s f) (selA (gF s f) (gso s) (gsk s (4 * c + f))).toNat = 0))) from Or.inr ⟨g0, al⟩)]
      · rw [if_pos al, if_neg (show ¬ ((0 ≤ gen s (4 * c + f) ∧ gen s (4 * c + f) ≠ selA (gF s f) (gso s) (gsk s (4 * c + f))) ∨ (¬ 0 ≤ gen s (4 * c + f) ∧ (selA (gF s f) (gso s) (gsk s (4 * c + f)) ≠ -1 ∧ sdd (gF s f) (selA (gF s f) (gso s) (gsk s (4 * c + f))).toNat = 0))) by rintro (q | q); exact g0 q.1; exact al q.2)]
  unfold bar
  rw [dn_X6_bars, e_Rd (4 * c + f) (by omega) (by omega), hk.1, e_Rd (4 * c + f) (by omega) (by omega), hk.2.2.2, e_Cl (ev_selectedBy6 hf hR hA (hM.sorts hI) hsk), if_neg he, e_Lt ⟨hin.2.2.1, by omega⟩, j43]
  by_cases ht : gsk s (4 * c + f) = -1
  · rw [if_pos (by omega), if_neg (fun q => q.1 ht)]
  · have hs := hI.2.1 (gsk s (4 * c + f)).toNat (by omega)
    rw [if_neg (by omega), e_Rd (gsk s (4 * c + f)).toNat (by omega) (by omega), hM.2.1 _ (by omega), e_Eq ⟨by omega, by omega⟩]
    by_cases h1 : gso s (gsk s (4 * c + f)).toNat = 1
    · rw [if_pos h1, if_pos ⟨ht, h1⟩]
    · rw [if_neg h1, if_neg (fun q => h1 q.2)]
end PO6
