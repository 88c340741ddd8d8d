/-! what a revision is kept against, on both sides -/
theorem frst_eq {p : Nat → Bool} {m x : Nat} (hx : x < m) (hp : p x = true) (hj : ∀ j, j < x → p j = false) : frst p m 0 = (x : Int) := by
  rcases frst_in p m 0 with ⟨h1, h2⟩ | ⟨y, h1, h2, h3, h4, h5⟩
  · have := h2 x (by omega) (by omega)
    rw [hp] at this
    cases this
  · have : y = x := by
      rcases Nat.lt_trichotomy y x with h | h | h
      · have := hj y h; rw [h4] at this; cases this
      · exact h
      · have := h5 x (by omega) h; rw [hp] at this; cases this
    rw [h1, this]
theorem frst_no {p : Nat → Bool} {m : Nat} (hj : ∀ j, j < m → p j = false) : frst p m 0 = -1 := by
  rcases frst_in p m 0 with ⟨h1, h2⟩ | ⟨y, h1, h2, h3, h4, h5⟩
  · exact h1
  · have := hj y (by omega)
    rw [h4] at this
    cases this
def keptM (A : FS) (r : Nat) : Int := if sho A r = 0 then frst (fun x => decide (sho A x = 0 ∧ srk A x = srk A r + 1)) (sn A) 0 else if srk A r = 1 then spt A (sho A r).toNat else frst (fun x => decide (sho A x = sho A r ∧ srk A x = srk A r - 1)) (sn A) 0
theorem keptM_eq {A : FS} {so : Nat → Int} (hI : AI A so) {r : Nat} (hr : r < sn A) : keptM A r = keptA A r := by
  have hrk : ∀ x, x < sn A → srk A x = (cnt (sho A) (sho A x) (x + 1) : Int) := hI.2.2.2.2.1
  have hh := hI.2.2.2.1 r hr
  unfold keptM keptA
  by_cases h0 : sho A r = 0
  · rw [if_pos h0, if_pos h0]
    have hr1 := hrk r hr
    rw [h0] at hr1
    rcases frst_in (fun x => decide (sho A x = 0)) (sn A - (r + 1)) (r + 1) with ⟨h1, h2⟩ | ⟨x, h1, h2, h3, h4, h5⟩
    · rw [h1]
      apply frst_no
      intro j hj
      simp only [decide_eq_false_iff_not]
      rintro ⟨q1, q2⟩
      have q3 := hrk j hj
      rw [q1] at q3
      by_cases hjr : j ≤ r
      · have := cnt_mono (sho A) 0 (show j + 1 ≤ r + 1 by omega)
        omega
      · have := h2 j (by omega) (by omega)
        simp [q1] at this
    · rw [h1]
      have hx0 : sho A x = 0 := by simpa using h4
      have hxn : x < sn A := by omega
      have hfl : cnt (sho A) 0 x = cnt (sho A) 0 (r + 1) := cnt_flat (by omega) (fun k k1 k2 => by
        have := h5 k k1 k2
        simpa using this)
      have hx1 := hrk x hxn
      rw [hx0, cnt_s, if_pos hx0, hfl] at hx1
      apply frst_eq hxn
      · simp only [decide_eq_true_eq]
        exact ⟨hx0, by omega⟩
      · intro j hj
        simp only [decide_eq_false_iff_not]
        rintro ⟨q1, q2⟩
        have q3 := hrk j (by omega)
        rw [q1] at q3
        by_cases hjr : j ≤ r
        · have := cnt_mono (sho A) 0 (show j + 1 ≤ r + 1 by omega)
          omega
        · have := h5 j (by omega) hj
          simp [q1] at this
  · rw [if_neg h0, if_neg h0]
    have hr1 := hrk r hr
    rw [cnt_s, if_pos rfl] at hr1
    have hb : ((sho A r).toNat : Int) = sho A r := by omega
    unfold tipOf
    rw [hb, if_neg (show ¬ (sho A r).toNat = 0 by omega)]
    rcases lst_in (sho A) (sho A r) r with q | ⟨x, q, q1, q2, q3⟩
    · have hc : cnt (sho A) (sho A r) r = 0 := cnt_flat (m := 0) (Nat.zero_le _) (fun k _ hk => lst_none q k hk)
      rw [if_pos q, if_pos (by omega)]
    · have hfl : cnt (sho A) (sho A r) r = cnt (sho A) (sho A r) (x + 1) := cnt_flat (by omega) (fun k k1 k2 => q3 k (by omega) k2)
      have hx1 := hrk x (by omega)
      rw [q2] at hx1
      have hpos : 1 ≤ cnt (sho A) (sho A r) (x + 1) := by
        rw [cnt_s, if_pos q2]
        omega
      rw [if_neg (show ¬ lst (sho A) (sho A r) r = -1 by omega), if_neg (by omega), q]
      apply frst_eq (by omega)
      · simp only [decide_eq_true_eq]
        exact ⟨q2, by omega⟩
      · intro j hj
        simp only [decide_eq_false_iff_not]
        rintro ⟨k1, k2⟩
        have k3 := hrk j (by omega)
        rw [k1] at k3
        have := cnt_mono (sho A) (sho A r) (show j + 1 ≤ x by omega)
        have h6 : cnt (sho A) (sho A r) (x + 1) = 1 + cnt (sho A) (sho A r) x := by rw [cnt_s, if_pos q2]
        omega
theorem keptA_in {A : FS} {so : Nat → Int} (hI : AI A so) {r : Nat} (hr : r < sn A) : keptA A r = -1 ∨ (0 ≤ keptA A r ∧ keptA A r < (sn A : Int)) := by
  have hh := hI.2.2.2.1 r hr
  unfold keptA
  by_cases h0 : sho A r = 0
  · rw [if_pos h0]
    rcases frst_in (fun x => decide (sho A x = 0)) (sn A - (r + 1)) (r + 1) with ⟨h1, h2⟩ | ⟨x, h1, h2, h3, h4, h5⟩
    · exact Or.inl h1
    · right; omega
  · rw [if_neg h0]
    exact tipOf_in hI (by omega) (by omega)
/-- what 'kept' answers for a revision -/
def keptV (A : FS) (r : Nat) : Int := if keptA A r = -1 then (nl (stx A r).toNat : Int) else (nl (stx A (keptA A r).toNat).toNat : Int) + (nl (stx A r).toNat : Int) - 2 * (lc (stx A (keptA A r).toNat).toNat (stx A r).toNat 0 0 : Int)
theorem ev_revAt6 {f : Nat} {A : FS} {so : Nat → Int} {M : fMem} (hf : f < 4) (hR : RM f A M) (hI : AI A so) {b k : Int} (hb : InI b) (hk : InI k) : dn_X6_revisionAt (f : Int) b k M = some (frst (fun x => decide (sho A x = b ∧ srk A x = k)) (sn A) 0, M) := by
  have h5 := hI.1
  exact ev_revAt6_L hf hR hI hb hk (sn A) 600 0 (by omega) (by omega)
theorem ev_kept6 {f : Nat} {A : FS} {so : Nat → Int} {M : fMem} (hf : f < 4) (hR : RM f A M) (hI : AI A so) {r : Int} (hr : InI r) : ∃ M', dn_X6_kept (f : Int) r M = some (if 0 ≤ r ∧ r < (sn A : Int) then keptV A r.toNat else -1, M') ∧ mFr M M' := by
  have h5 := hI.1
  rw [dn_X6_kept, e_Cl (ev_noRevision6 hf hR hI hr), fEq_b2]
  by_cases h : 0 ≤ r ∧ r < (sn A : Int)
  · rw [if_neg (fun q => q h), if_pos h]
    obtain ⟨r, rfl⟩ := Int.eq_ofNat_of_zero_le h.1
    have hrn : r < sn A := by omega
    have hh := hI.2.2.2.1 r hrn
    have hrk := hI.2.2.2.2.1 r hrn
    have hcl := cnt_le (sho A) (sho A r) (r + 1)
    have hR1 := hR.2.1 r (by omega)
    obtain ⟨t, ht, ht1, ht2, -⟩ := (hI.2.1 r hrn).nat
    have hke := keptM_eq hI hrn
    have hkin := keptA_in hI hrn
    have tail : ∃ M', dn_X6_kept_J99 (f : Int) (r : Int) (stx A r) (sho A r) (srk A r) (keptA A r) M = some (keptV A r, M') ∧ mFr M M' := by
      rw [dn_X6_kept_J99, e_Le ⟨by omega, by omega⟩]
      unfold keptV
      by_cases hk : keptA A r = -1
      · rw [if_neg (by omega), if_pos hk, ht, e_Cl (ev_size (by omega) M), Int.toNat_natCast]
        exact ⟨M, rfl, fun _ _ _ => rfl⟩
      · rw [if_pos (by omega), if_neg hk]
        have hkx : keptA A r = ((keptA A r).toNat : Int) := by omega
        obtain ⟨t2, hu, hu1, hu2, -⟩ := (hI.2.1 (keptA A r).toNat (by omega)).nat
        obtain ⟨M', e1, e2⟩ := ev_difference6 (a := t2) (b := t) ⟨hu2, hu1⟩ ⟨ht2, ht1⟩ M
        refine ⟨M', ?_, e2⟩
        rw [e_Rd (24 * f + (keptA A r).toNat) (by omega) (by omega), (hR.2.1 _ (by omega)).1, hu, ht, e_Cl e1, Int.toNat_natCast, Int.toNat_natCast]
    rw [e_Rd (24 * f + r) (by omega) (by omega), hR1.1, e_Rd (24 * f + r) (by omega) (by omega), hR1.2.2.1, e_Rd (24 * f + r) (by omega) (by omega), hR1.2.2.2, e_Eq ⟨by omega, by omega⟩, e_Eq ⟨by omega, by omega⟩, Int.toNat_natCast]
    rw [← hke] at tail
    unfold keptM at tail
    by_cases c0 : sho A r = 0
    · rw [if_pos c0] at tail ⊢
      rw [e_Cl (ev_revAt6 hf hR hI (b := 0) (k := srk A r + 1) (by omega) (by omega))]
      exact tail
    · rw [if_neg c0] at tail ⊢
      by_cases c1 : srk A r = 1
      · rw [if_pos c1] at tail ⊢
        rw [e_Rd (6 * f + (sho A r).toNat) (by omega) (by omega), (hR.2.2.1 _ (by omega) (by omega)).1]
        exact tail
      · rw [if_neg c1] at tail ⊢
        rw [e_Cl (ev_revAt6 hf hR hI (b := sho A r) (k := srk A r - 1) (by omega) (by omega))]
        exact tail
  · rw [if_pos h, if_neg h]
    exact ⟨M, rfl, fun _ _ _ => rfl⟩
