/-! calls that only look, and those on a copy alone -/
section PO1
variable {s : GS} {M : fMem}
theorem file_cases (a : Int) : (¬ (0 ≤ a ∧ a < 4)) ∨ ∃ f : Nat, a = (f : Int) ∧ f < 4 := by
  by_cases h : 0 ≤ a ∧ a < 4
  · exact Or.inr ⟨a.toNat, by omega, by omega⟩
  · exact Or.inl h
theorem fopen5_no {a : Int} (h1 : InI a) (h : ¬ (0 ≤ a ∧ a < 4)) (M : fMem) (x k : fMem → fOp) : fCl (dn_X5_isFile a M) (fun v1 M2 => fEq v1 0 (x M2) (k M2)) = x M := by
  rw [e_Cl (ev_isFile h1 M), fEq_b2, if_neg h]
theorem fopen5 {f : Nat} (hf : f < 4) (M : fMem) (x k : fMem → fOp) : fCl (dn_X5_isFile (f : Int) M) (fun v1 M2 => fEq v1 0 (x M2) (k M2)) = k M := by
  rw [e_Cl (ev_isFile (by omega) M), fEq_b2, if_pos (by omega)]
theorem fopen6_no {a : Int} (h1 : InI a) (h : ¬ (0 ≤ a ∧ a < 4)) (M : fMem) (x k : fMem → fOp) : fCl (dn_X6_below a 4 M) (fun v1 M2 => fEq v1 0 (x M2) (k M2)) = x M := by
  rw [e_Cl (ev_below6 h1 (by omega) M), fEq_b2, if_neg h]
theorem fopen6 {f : Nat} (hf : f < 4) (M : fMem) (x k : fMem → fOp) : fCl (dn_X6_below (f : Int) 4 M) (fun v1 M2 => fEq v1 0 (x M2) (k M2)) = k M := by
  rw [e_Cl (ev_below6 (by omega) (by omega) M), fEq_b2, if_pos (by omega)]
theorem gd_revisions (hC : RelC s M) (hM : RelM s M) (hI : Inv s) {a : Int} (h1 : InI a) : Gd InI (dn_X5_revisions a) (dn_X6_revisions a) M := by
  rcases file_cases a with h | ⟨f, rfl, hf⟩
  · exact Gd.same hC hM hI (v := -1) (by rw [dn_X5_revisions]; exact fopen5_no h1 h M _ _) (by rw [dn_X6_revisions]; exact fopen6_no h1 h M _ _) (by omega)
  · have h5 := (hI.1 f hf).1
    refine Gd.same hC hM hI (v := (sn (gF s f) : Int)) ?_ ?_ (by omega)
    · rw [dn_X5_revisions]
      refine (fopen5 hf M _ _).trans ?_
      rw [e_Ix f rfl (by omega), fGt, (hC.1 f hf).1.1]
    · rw [dn_X6_revisions]
      refine (fopen6 hf M _ _).trans ?_
      rw [e_Rd f rfl (by omega), (hM.1 f hf).1.1]
theorem gd_standard (hC : RelC s M) (hM : RelM s M) (hI : Inv s) {a : Int} (h1 : InI a) : Gd InI (dn_X5_standard a) (dn_X6_standard a) M := by
  rcases file_cases a with h | ⟨f, rfl, hf⟩
  · exact Gd.same hC hM hI (v := -1) (by rw [dn_X5_standard]; exact fopen5_no h1 h M _ _) (by rw [dn_X6_standard]; exact fopen6_no h1 h M _ _) (by omega)
  · have hA := hI.1 f hf
    have h5 := hA.1
    have hd := hA.2.2.2.2.2.2.2.2.1
    refine Gd.same hC hM hI (v := if 0 < sn (gF s f) then sd (gF s f) else -1) ?_ ?_ (by split <;> omega)
    · rw [dn_X5_standard]
      refine (fopen5 hf M _ _).trans ?_
      rw [e_Ix f rfl (by omega), e_Cl (ev_isThere (hC.1 f hf) hA), fEq_b2, e_Ix f rfl (by omega), fGt, (hC.1 f hf).1.2.2.2]
      split <;> rfl
    · rw [dn_X6_standard]
      refine (fopen6 hf M _ _).trans ?_
      rw [e_Rd f rfl (by omega), (hM.1 f hf).1.1, e_Eq ⟨by omega, by omega⟩, e_Rd f rfl (by omega), (hM.1 f hf).1.2.2.2]
      by_cases h0 : 0 < sn (gF s f)
      · rw [if_neg (by omega), if_pos h0]
      · rw [if_pos (by omega), if_neg h0]
        rfl
theorem gd_named (hC : RelC s M) (hM : RelM s M) (hI : Inv s) {a t : Int} (h1 : InI a) (h2 : InI t) : Gd InI (dn_X5_named a t) (dn_X6_named a t) M := by
  rcases file_cases a with h | ⟨f, rfl, hf⟩
  · exact Gd.same hC hM hI (v := -1) (by rw [dn_X5_named]; exact fopen5_no h1 h M _ _) (by rw [dn_X6_named]; exact fopen6_no h1 h M _ _) (by omega)
  · have hA := hI.1 f hf
    have h5 := hA.1
    have e5 : dn_X5_named (f : Int) t M = some (if 0 ≤ t ∧ t < 5 then snm (gF s f) t.toNat else -1, M) := by
      rw [dn_X5_named]
      refine (fopen5 hf M _ _).trans ?_
      rw [e_Cl (ev_isTag h2 M), fEq_b2]
      by_cases h3 : 0 ≤ t ∧ t < 5
      · rw [if_pos h3, if_pos h3, e_Ix f rfl (by omega), e_Rd t.toNat (by omega) (by omega), (hC.1 f hf).2.2.2.2.1 _ (by omega)]
      · rw [if_neg h3, if_neg h3]
    have e6 : dn_X6_named (f : Int) t M = some (if 0 ≤ t ∧ t < 5 then snm (gF s f) t.toNat else -1, M) := by
      rw [dn_X6_named]
      refine (fopen6 hf M _ _).trans ?_
      rw [e_Cl (ev_below6 h2 (by omega) M), fEq_b2]
      by_cases h3 : 0 ≤ t ∧ t < 5
      · rw [if_pos h3, if_pos h3, e_Rd (5 * f + t.toNat) (by omega) (by omega), (hM.1 f hf).2.2.2 _ (by omega)]
      · rw [if_neg h3, if_neg h3]
        rfl
    refine Gd.same hC hM hI e5 e6 ?_
    by_cases h3 : 0 ≤ t ∧ t < 5
    · rw [if_pos h3]
      have := hA.2.2.2.2.2.2.2.2.2.1 t.toNat (by omega)
      omega
    · rw [if_neg h3]
      omega
theorem ev_isRev5 (hC : RelC s M) (hI : Inv s) {a r : Int} (h1 : InI a) (h2 : InI r) : dn_X5_isRevision a r M = some (b2 ((0 ≤ a ∧ a < 4) ∧ 0 ≤ r ∧ r < (sn (gF s a.toNat) : Int)), M) := by
  rw [dn_X5_isRevision, e_Cl (ev_isFile h1 M), fEq_b2]
  by_cases h : 0 ≤ a ∧ a < 4
  · obtain ⟨f, rfl⟩ := Int.eq_ofNat_of_zero_le h.1
    have hf : f < 4 := by omega
    have hA := hI.1 f hf
    have h5 := hA.1
    rw [if_pos h, e_Lt ⟨h2, by omega⟩, e_Ix f rfl (by omega), fGt, (hC.1 f hf).1.1, e_Le ⟨by omega, h2⟩, fRz_0, fRz_1, Int.toNat_natCast]
    by_cases h3 : r < 0
    · rw [if_pos h3, b2_f (by omega)]
    · rw [if_neg h3]
      by_cases h4 : (sn (gF s f) : Int) ≤ r
      · rw [if_pos h4, b2_f (by omega)]
      · rw [if_neg h4, b2_t (by omega)]
  · rw [if_neg h, fRz_0, b2_f (fun q => h q.1)]
theorem ev_noRev6 (hM : RelM s M) (hI : Inv s) {a r : Int} (h1 : InI a) (h2 : InI r) : dn_X6_noRevision a r M = some (b2 (¬ ((0 ≤ a ∧ a < 4) ∧ 0 ≤ r ∧ r < (sn (gF s a.toNat) : Int))), M) := by
  by_cases h : 0 ≤ a ∧ a < 4
  · obtain ⟨f, rfl⟩ := Int.eq_ofNat_of_zero_le h.1
    have hf : f < 4 := by omega
    rw [ev_noRevision6 hf (hM.1 f hf) (hI.1 f hf) h2, Int.toNat_natCast]
    congr 2
    apply b2_congr
    simp [h]
  · rw [dn_X6_noRevision, e_Cl (ev_below6 h1 (by omega) M), fEq_b2, if_neg h, dn_X6_noRevision_J21, fRz_1, b2_t]
    intro q
    exact h q.1
theorem gd_number (hC : RelC s M) (hM : RelM s M) (hI : Inv s) {a r i : Int} (h1 : InI a) (h2 : InI r) (h3 : InI i) : Gd InI (dn_X5_number a r i) (dn_X6_number a r i) M := by
  by_cases h : (0 ≤ a ∧ a < 4) ∧ 0 ≤ r ∧ r < (sn (gF s a.toNat) : Int)
  · obtain ⟨f, rfl⟩ := Int.eq_ofNat_of_zero_le h.1.1
    have hf : f < 4 := by omega
    have hA := hI.1 f hf
    have h5 := hA.1
    rw [Int.toNat_natCast] at h
    obtain ⟨r, rfl⟩ := Int.eq_ofNat_of_zero_le h.2.1
    have hr : r < sn (gF s f) := by omega
    have e6 := ev_number6 hf (hM.1 f hf) hA h2 h3
    have e5 : dn_X5_number (f : Int) (r : Int) i M = some (if 0 ≤ (r : Int) ∧ (r : Int) < (sn (gF s f) : Int) ∧ 0 ≤ i then numA (gF s f) (r : Int).toNat i.toNat else -1, M) := by
      rw [dn_X5_number, e_Cl (ev_isRev5 hC hI h1 h2), fEq_b2, Int.toNat_natCast, if_pos h, e_Lt ⟨h3, by omega⟩]
      by_cases h4 : i < 0
      · rw [if_pos h4, if_neg (by omega)]
      · obtain ⟨p, rfl⟩ := Int.eq_ofNat_of_zero_le (show 0 ≤ i by omega)
        rw [if_neg h4, if_pos (by omega), e_Ix f rfl (by omega), e_Cl (ev_numberPart (hC.1 f hf) hA hr (by omega)), Int.toNat_natCast, Int.toNat_natCast]
    refine Gd.same hC hM hI e5 e6 ?_
    by_cases h4 : 0 ≤ (r : Int) ∧ (r : Int) < (sn (gF s f) : Int) ∧ 0 ≤ i
    · rw [if_pos h4, Int.toNat_natCast]
      have hh := hA.2.2.2.1 r hr
      unfold numA
      generalize hD : dpth (gF s f) (sho (gF s f) r).toNat = D
      split
      · omega
      · rename_i hlt
        have hu := up_in hA (D - i.toNat / 2) r hr (by omega)
        have hho := hA.2.2.2.1 _ hu
        split
        · split
          · omega
          · rename_i hn0
            rw [hA.2.2.2.2.2.2.1 _ (by omega) (by omega)]
            unfold mgOf
            have := cpt_le (spt (gF s f)) (sv (gF s f)) (spt (gF s f) (sho (gF s f) (upA (gF s f) (D - i.toNat / 2) r)).toNat) (sho (gF s f) (upA (gF s f) (D - i.toNat / 2) r)).toNat
            split <;> omega
        · rw [hA.2.2.2.2.1 _ hu]
          have := cnt_le (sho (gF s f)) (sho (gF s f) (upA (gF s f) (D - i.toNat / 2) r)) (upA (gF s f) (D - i.toNat / 2) r + 1)
          omega
    · rw [if_neg h4]
      omega
  · refine Gd.same hC hM hI (v := -1) ?_ ?_ (by omega)
    · rw [dn_X5_number, e_Cl (ev_isRev5 hC hI h1 h2), fEq_b2, if_neg h]
    · rw [dn_X6_number, e_Cl (ev_noRev6 hM hI h1 h2), fEq_b2, if_pos h]
theorem gd_content (hC : RelC s M) (hM : RelM s M) (hI : Inv s) {a r : Int} (h1 : InI a) (h2 : InI r) : Gd InL (dn_X5_content a r) (dn_X6_content a r) M := by
  by_cases h : (0 ≤ a ∧ a < 4) ∧ 0 ≤ r ∧ r < (sn (gF s a.toNat) : Int)
  · have hh := h
    obtain ⟨f, rfl⟩ := Int.eq_ofNat_of_zero_le h.1.1
    have hf : f < 4 := by omega
    have hA := hI.1 f hf
    have h5 := hA.1
    rw [Int.toNat_natCast] at h
    obtain ⟨r, rfl⟩ := Int.eq_ofNat_of_zero_le h.2.1
    have hr : r < sn (gF s f) := by omega
    have ht := hA.2.1 r hr
    refine Gd.same hC hM hI (v := stx (gF s f) r) ?_ ?_ (by have := ht.1; have := ht.2.1; omega)
    · rw [dn_X5_content, e_Cl (ev_isRev5 hC hI h1 h2), fEq_b2, if_pos hh, e_Ix f rfl (by omega), e_Rd r rfl (by omega), ((hC.1 f hf).2.1 r (by omega)).1]
    · rw [dn_X6_content, e_Cl (ev_noRev6 hM hI h1 h2), fEq_b2, if_neg (fun q => q hh), e_Rd (24 * f + r) (by omega) (by omega), ((hM.1 f hf).2.1 r (by omega)).1]
  · refine Gd.same hC hM hI (v := -1) ?_ ?_ (by omega)
    · rw [dn_X5_content, e_Cl (ev_isRev5 hC hI h1 h2), fEq_b2, if_neg h]
    · rw [dn_X6_content, e_Cl (ev_noRev6 hM hI h1 h2), fEq_b2, if_pos h]
theorem gd_dead (hC : RelC s M) (hM : RelM s M) (hI : Inv s) {a r : Int} (h1 : InI a) (h2 : InI r) : Gd InI (dn_X5_dead a r) (dn_X6_dead a r) M := by
  by_cases h : (0 ≤ a ∧ a < 4) ∧ 0 ≤ r ∧ r < (sn (gF s a.toNat) : Int)
  · have hh := h
    obtain ⟨f, rfl⟩ := Int.eq_ofNat_of_zero_le h.1.1
    have hf : f < 4 := by omega
    have hA := hI.1 f hf
    have h5 := hA.1
    rw [Int.toNat_natCast] at h
    obtain ⟨r, rfl⟩ := Int.eq_ofNat_of_zero_le h.2.1
    have hr : r < sn (gF s f) := by omega
    have hd := hA.2.2.1 r hr
    refine Gd.same hC hM hI (v := if sdd (gF s f) r = 0 then 0 else 1) ?_ ?_ (by split <;> omega)
    · rw [dn_X5_dead, e_Cl (ev_isRev5 hC hI h1 h2), fEq_b2, if_pos hh, e_Ix f rfl (by omega), e_Rd r rfl (by omega), ((hC.1 f hf).2.1 r (by omega)).2.1, e_Eq ⟨by omega, by omega⟩, fRz_0, fRz_1]
      split <;> rfl
    · rw [dn_X6_dead, e_Cl (ev_noRev6 hM hI h1 h2), fEq_b2, if_neg (fun q => q hh), e_Rd (24 * f + r) (by omega) (by omega), ((hM.1 f hf).2.1 r (by omega)).2.1, e_Eq ⟨by omega, by omega⟩, fRz_0, fRz_1]
      split <;> rfl
  · refine Gd.same hC hM hI (v := 0) ?_ ?_ (by omega)
    · rw [dn_X5_dead, e_Cl (ev_isRev5 hC hI h1 h2), fEq_b2, if_neg h, fRz_0]
    · rw [dn_X6_dead, e_Cl (ev_noRev6 hM hI h1 h2), fEq_b2, if_pos h, fRz_0]
theorem gd_kept (hC : RelC s M) (hM : RelM s M) (hI : Inv s) {a r : Int} (h1 : InI a) (h2 : InI r) : Gd InI (dn_X5_kept a r) (dn_X6_kept a r) M := by
  by_cases h : (0 ≤ a ∧ a < 4) ∧ 0 ≤ r ∧ r < (sn (gF s a.toNat) : Int)
  · have hh := h
    obtain ⟨f, rfl⟩ := Int.eq_ofNat_of_zero_le h.1.1
    have hf : f < 4 := by omega
    have hA := hI.1 f hf
    have h5 := hA.1
    rw [Int.toNat_natCast] at h
    obtain ⟨r, rfl⟩ := Int.eq_ofNat_of_zero_le h.2.1
    have hr : r < sn (gF s f) := by omega
    have hkin := keptA_in hA hr
    obtain ⟨t, ht, ht1, ht2, -⟩ := (hA.2.1 r hr).nat
    have e5 : ∃ M1, dn_X5_kept (f : Int) (r : Int) M = some (keptV (gF s f) r, M1) ∧ (∀ q k, ¬ (60 ≤ q ∧ q < 78) → M1 q k = M q k) ∧ InI (keptV (gF s f) r) := by
      rw [dn_X5_kept, e_Cl (ev_isRev5 hC hI h1 h2), fEq_b2, if_pos hh, e_Ix f rfl (by omega), e_Cl (ev_keptAgainst (hC.1 f hf) hA hr), e_Eq ⟨by omega, by omega⟩]
      unfold keptV
      by_cases hk : keptA (gF s f) r = -1
      · rw [if_pos hk, if_pos hk, e_Rd r rfl (by omega), ((hC.1 f hf).2.1 r (by omega)).1, ht, e_Cl (ev_lineCount (by omega) ht2 M), Int.toNat_natCast]
        exact ⟨M, rfl, fun _ _ _ => rfl, by omega⟩
      · rw [if_neg hk, if_neg hk]
        obtain ⟨t2, hu, hu1, hu2, -⟩ := (hA.2.1 (keptA (gF s f) r).toNat (by omega)).nat
        obtain ⟨M1, e1, e2, e3, -, e4⟩ := ev_compare (a := t2) (b := t) 60 ⟨hu2, by omega⟩ ⟨ht2, by omega⟩ M
        have hl := lc_12 (b := t) hu2 0 0
        refine ⟨M1, ?_, fun q k hq => e4 q k (by omega), ?_⟩
        · rw [e_Rd (keptA (gF s f) r).toNat (by omega) (by omega), ((hC.1 f hf).2.1 _ (by omega)).1, e_Rd r rfl (by omega), ((hC.1 f hf).2.1 r (by omega)).1, hu, ht, e_Cl e1, dn_X1_size]
          simp only [fGt, e2.1, e2.2.1, e3]
          rw [fCl_some, Int.toNat_natCast, Int.toNat_natCast]
        · rw [hu, ht, Int.toNat_natCast, Int.toNat_natCast]
          omega
    obtain ⟨M1, e1, e2, e3⟩ := e5
    have hM1 : RelM s M1 := hM.fr (fun q k h1 h2 => e2 q k (by omega))
    have hC1 : RelC s M1 := hC.fr (fun q k h1 => e2 q k (by omega))
    obtain ⟨M2, f1, f2⟩ := ev_kept6 hf (hM1.1 f hf) hA h2
    rw [if_pos h.2, Int.toNat_natCast] at f1
    exact ⟨_, M1, M2, s, e1, f1, e3, hC1.fr (fun q k h1 => f2 q k (by omega)), hM1.fr (fun q k h1 h2 => f2 q k (by omega)), hI⟩
  · refine Gd.same hC hM hI (v := -1) ?_ ?_ (by omega)
    · rw [dn_X5_kept, e_Cl (ev_isRev5 hC hI h1 h2), fEq_b2, if_neg h]
    · rw [dn_X6_kept, e_Cl (ev_noRev6 hM hI h1 h2), fEq_b2, if_pos h]
/-! writing a copy -/
theorem ev_hold (M : fMem) (P : Nat) (e t : Int) : dn_X0_hold P e t M = some (0, fup (fup (fup M P 0 e) P 1 0) P 2 t) := by
  rw [dn_X0_hold]
  simp only [fPt]
  rw [e_Pz (by omega)]
theorem ev_drop (M : fMem) (P : Nat) : dn_X0_drop P M = some (0, fup (fup M P 0 (-1)) P 1 0) := by
  rw [dn_X0_drop]
  simp only [fPt]
  rw [e_Pz (by omega)]
theorem gd_add (hC : RelC s M) (hM : RelM s M) (hI : Inv s) {a1 a2 t : Int} (h1 : InI a1) (h2 : InI a2) (h3 : InL t) : Gd InI (dn_X5_add a1 a2 t) (dn_X6_add a1 a2 t) M := by
  rcases pair_cases a1 a2 with h | ⟨c, f, rfl, rfl, hc, hf⟩
  · exact Gd.same hC hM hI (v := 0) (by rw [dn_X5_add]; exact (open5_no h1 h2 h M _ _).trans (fRz_0 M)) (by rw [dn_X6_add]; exact (open6_no h1 h2 h M _ _).trans (fRz_0 M)) (by omega)
  · have hin := hI.en_in hc hf
    have hk := hC.2.2 (4 * c + f) (by omega)
    have hk6 := hM.2.2 (4 * c + f) (by omega)
    have o5 : dn_X5_add (c : Int) (f : Int) t M = if gen s (4 * c + f) ≠ -1 then some (0, M) else if ((0 ≤ t ∧ okR 12 t.toNat = true) ∧ ¬ mkR 12 t.toNat = true) then some (1, fup (fup (fup M (47 + (4 * c + f)) 0 (-2)) (47 + (4 * c + f)) 1 0) (47 + (4 * c + f)) 2 t) else some (0, M) := by
      rw [dn_X5_add]
      refine (open5 hc hf M _ _).trans ((copy5 hc hf M _).trans ?_)
      rw [e_Cl (ev_hasEntry5 hC hI hc hf), fEq_b2, e_Cl (ev_isClean h3 M), fEq_b2, e_Cl (ev_hold M _ _ _), fRz_0, fRz_1]
    have o6 : ∀ M1, RelM s M1 → dn_X6_add (c : Int) (f : Int) t M1 = if gen s (4 * c + f) ≠ -1 then some (0, M1) else if ((0 ≤ t ∧ okR 12 t.toNat = true) ∧ ¬ mkR 12 t.toNat = true) then some (1, fup (fup (fup M1 128 (4 * c + f) (-2)) 129 (4 * c + f) 0) 130 (4 * c + f) t) else some (0, M1) := by
      intro M1 hM1
      rw [dn_X6_add]
      refine (open6 hc hf M1 _ _).trans ?_
      rw [e_Rd (4 * c + f) (by omega) (by omega), (hM1.2.2 _ (by omega)).1, e_Eq ⟨hin.1, by omega⟩, e_Cl (ev_noText h3 M1), fEq_b2, fRz_0]
      by_cases c1 : gen s (4 * c + f) = -1
      · rw [if_pos c1, if_neg (show ¬ (gen s (4 * c + f) ≠ -1) from fun q => q c1)]
        by_cases c2 : 0 ≤ t ∧ okR 12 t.toNat = true
        · rw [if_neg (show ¬ ¬ (0 ≤ t ∧ okR 12 t.toNat = true) from fun q => q c2), e_Cl (ev_hasMarks6 h3 c2 M1), fEq_b2]
          by_cases c3 : mkR 12 t.toNat = true
          · rw [if_pos c3, if_neg (show ¬ ((0 ≤ t ∧ okR 12 t.toNat = true) ∧ ¬ mkR 12 t.toNat = true) from fun q => q.2 c3)]
            exact fRz_0 M1
          · rw [if_neg c3, if_pos (show ((0 ≤ t ∧ okR 12 t.toNat = true) ∧ ¬ mkR 12 t.toNat = true) from ⟨c2, c3⟩), e_Wr (4 * c + f) (by omega) (by omega), e_Wz (4 * c + f) (by omega) (by omega) (by omega), e_Wr (4 * c + f) (by omega) (by omega), fRz_1]
        · rw [if_pos (show ¬ (0 ≤ t ∧ okR 12 t.toNat = true) from c2), if_neg (show ¬ ((0 ≤ t ∧ okR 12 t.toNat = true) ∧ ¬ mkR 12 t.toNat = true) from fun q => c2 q.1)]
      · rw [if_neg c1, if_pos (show gen s (4 * c + f) ≠ -1 from c1)]
    by_cases c1 : gen s (4 * c + f) ≠ -1
    · rw [if_pos c1] at o5
      have := o6 M hM
      rw [if_pos c1] at this
      exact Gd.same hC hM hI o5 this (by omega)
    · rw [if_neg c1] at o5
      by_cases c2 : ((0 ≤ t ∧ okR 12 t.toNat = true) ∧ ¬ mkR 12 t.toNat = true)
      · rw [if_pos c2] at o5
        have hM1 : RelM s (fup (fup (fup M (47 + (4 * c + f)) 0 (-2)) (47 + (4 * c + f)) 1 0) (47 + (4 * c + f)) 2 t) := hM.fr (fun q k h1 h2 => by rw [fup_ne (by omega), fup_ne (by omega), fup_ne (by omega)])
        have o6' := o6 _ hM1
        rw [if_neg c1, if_pos c2] at o6'
        refine ⟨1, _, _, wC s (4 * c + f) (-2) 0 t (gsk s (4 * c + f)), o5, o6', by omega, ?_, ?_, ?_⟩
        · refine RelC.fr (M := fup (fup (fup M (47 + (4 * c + f)) 0 (-2)) (47 + (4 * c + f)) 1 0) (47 + (4 * c + f)) 2 t) ?_ (fun q k h1 => by rw [fup_ne (by omega), fup_ne (by omega), fup_ne (by omega)])
          refine hC.wC (by omega) ⟨?_, ?_, ?_, ?_⟩ (fun q j hq => by rw [fup_ne (by omega), fup_ne (by omega), fup_ne (by omega)])
          · rw [fup_ne (by omega), fup_ne (by omega), fup_self]
          · rw [fup_ne (by omega), fup_self]
          · rw [fup_self]
          · rw [fup_ne (by omega), fup_ne (by omega), fup_ne (by omega)]; exact hk.2.2.2
        · refine hM1.wC ⟨?_, ?_, ?_, ?_⟩ (fun q j hq => by rw [fup_ne (by omega), fup_ne (by omega), fup_ne (by omega)])
          · rw [fup_ne (by omega), fup_ne (by omega), fup_self]
          · rw [fup_ne (by omega), fup_self]
          · rw [fup_self]
          · rw [fup_ne (by omega), fup_ne (by omega), fup_ne (by omega)]; exact (hM1.2.2 _ (by omega)).2.2.2
        · exact hI.wC hc hf ⟨by omega, by omega, ⟨c2.1.1, by omega, c2.1.2⟩, (hI.2.2 c f hc hf).2.2.2⟩
      · rw [if_neg c2] at o5
        have := o6 M hM
        rw [if_neg c1, if_neg c2] at this
        exact Gd.same hC hM hI o5 this (by omega)
end PO1
