/-! texts: what the class's and the reference's methods answer -/
theorem ev_isText_L (a0 : Int) : ∀ (m n i r : Nat) (M : fMem), i + m = 12 → m < n → r < 9223372036854775808 → dn_X4_isText_L13 a0 (fun y3 y4 M5 => dn_X4_isText_J63 a0 y3 y4 M5) n (r : Int) (i : Int) M = some (b2 (okR m r = true), M) := by
  intro m
  induction m with
  | zero =>
    intro n i r M hi hn hr
    cases n with
    | zero => omega
    | succ n =>
      rw [dn_X4_isText_L13, dn_X4_isText_L13B, e_Let ⟨by omega, by omega⟩ (by omega), dn_X4_isText_J63, e_EqL ⟨by omega, by omega⟩, fRz_0, fRz_1]
      by_cases h : r = 0
      · rw [if_pos (by omega), b2_t (by simp [okR, h])]
      · rw [if_neg (by omega), b2_f (by simp [okR, h])]
  | succ m ih =>
    intro n i r M hi hn hr
    cases n with
    | zero => omega
    | succ n =>
      rw [dn_X4_isText_L13, dn_X4_isText_L13B, e_Lef ⟨by omega, by omega⟩ (by omega), e_LtL ⟨by omega, by omega⟩]
      by_cases h : r = 0
      · subst h
        rw [if_neg (by omega), dn_X4_isText_J63, e_EqL ⟨by omega, by omega⟩, if_pos (by omega), fRz_1, b2_t (okR_0 _)]
      · rw [if_pos (by omega), e_RmL ⟨⟨by omega, by omega⟩, by omega⟩, e_LtL ⟨by omega, by omega⟩]
        have ho : okR (m + 1) r = (decide (1 ≤ r % 32) && decide (r % 32 ≤ 19) && okR m (r / 32)) := by
          simp [okR, h]
        by_cases h1 : (r : Int) % 32 < 1
        · rw [if_pos h1, fRz_0, b2_f]
          rw [ho]
          simp
          intro h2
          omega
        · rw [if_neg h1, e_LtL ⟨by omega, by omega⟩]
          by_cases h2 : (19 : Int) < (r : Int) % 32
          · rw [if_pos h2, fRz_0, b2_f]
            rw [ho]
            simp
            intro _ h3
            omega
          · rw [if_neg h2, e_DvL ⟨⟨by omega, by omega⟩, by omega⟩, show (r : Int) / 32 = ((r / 32 : Nat) : Int) by omega, show ((i : Int) + 1) = ((i + 1 : Nat) : Int) by omega, ih n (i + 1) (r / 32) M (by omega) (by omega) (by omega)]
            congr 2
            apply b2_congr
            rw [ho]
            simp
            intro _
            omega
/-- a text: not negative, and its lines are lines -/
def OK (t : Int) : Prop := 0 ≤ t ∧ okR 12 t.toNat = true
def MK (t : Int) : Prop := mkR 12 t.toNat = true
theorem ev_isText {t : Int} (h : InL t) (M : fMem) : dn_X4_isText t M = some (b2 (0 ≤ t ∧ okR 12 t.toNat = true), M) := by
  rw [dn_X4_isText, e_LtL ⟨h, by omega⟩]
  by_cases h0 : t < 0
  · rw [if_pos h0, fRz_0, b2_f (by omega)]
  · rw [if_neg h0]
    obtain ⟨r, rfl⟩ := Int.eq_ofNat_of_zero_le (show 0 ≤ t by omega)
    have := ev_isText_L (r : Int) 12 600 0 r M (by omega) (by omega) (by omega)
    rw [show ((0 : Nat) : Int) = 0 from rfl] at this
    rw [this]
    congr 2
    apply b2_congr
    simp
theorem ev_hasMarks_L (a0 : Int) : ∀ (m n i r : Nat) (M : fMem), i + m = 12 → m < n → r < 9223372036854775808 → dn_X4_hasMarks_L5 a0 n (r : Int) (i : Int) M = some (b2 (mkR m r = true), M) := by
  intro m
  induction m with
  | zero =>
    intro n i r M hi hn hr
    cases n with
    | zero => omega
    | succ n => rw [dn_X4_hasMarks_L5, dn_X4_hasMarks_L5B, e_Let ⟨by omega, by omega⟩ (by omega), fRz_0, b2_f (by simp [mkR])]
  | succ m ih =>
    intro n i r M hi hn hr
    cases n with
    | zero => omega
    | succ n =>
      rw [dn_X4_hasMarks_L5, dn_X4_hasMarks_L5B, e_Lef ⟨by omega, by omega⟩ (by omega), e_RmL ⟨⟨by omega, by omega⟩, by omega⟩, e_LtL ⟨by omega, by omega⟩]
      by_cases h1 : (r : Int) % 32 < 17
      · rw [if_pos h1, e_DvL ⟨⟨by omega, by omega⟩, by omega⟩, show (r : Int) / 32 = ((r / 32 : Nat) : Int) by omega, show ((i : Int) + 1) = ((i + 1 : Nat) : Int) by omega, ih n (i + 1) (r / 32) M (by omega) (by omega) (by omega)]
        congr 2
        apply b2_congr
        simp [mkR]
        omega
      · rw [if_neg h1, fRz_1, b2_t]
        simp [mkR]
        omega
theorem ev_hasMarks {t : Int} (h : 0 ≤ t ∧ InL t) (M : fMem) : dn_X4_hasMarks t M = some (b2 (mkR 12 t.toNat = true), M) := by
  obtain ⟨r, rfl⟩ := Int.eq_ofNat_of_zero_le h.1
  have := ev_hasMarks_L (r : Int) 12 600 0 r M (by omega) (by omega) (by omega)
  rw [dn_X4_hasMarks]
  simpa using this
theorem ev_isClean {t : Int} (h : InL t) (M : fMem) : dn_X4_isClean t M = some (b2 ((0 ≤ t ∧ okR 12 t.toNat = true) ∧ ¬ mkR 12 t.toNat = true), M) := by
  rw [dn_X4_isClean, e_Cl (ev_isText h M), fEq_b2]
  by_cases h1 : 0 ≤ t ∧ okR 12 t.toNat = true
  · rw [if_pos h1, e_Cl (ev_hasMarks ⟨h1.1, h⟩ M), fEq_b2, fRz_0, fRz_1]
    by_cases h2 : mkR 12 t.toNat = true
    · rw [if_pos h2, b2_f (fun q => q.2 h2)]
    · rw [if_neg h2, b2_t ⟨h1, h2⟩]
  · rw [if_neg h1, fRz_0, b2_f (fun q => h1 q.1)]
theorem ev_lineCount_L (a0 : Int) : ∀ (m n c r : Nat) (M : fMem), c + m = 12 → m < n → r < 9223372036854775808 → nl r ≤ m → dn_X4_lineCount_L4 a0 n (c : Int) (r : Int) M = some (((c + nl r : Nat) : Int), M) := by
  intro m
  induction m with
  | zero =>
    intro n c r M hc hn hr hl
    cases n with
    | zero => omega
    | succ n =>
      rw [dn_X4_lineCount_L4, dn_X4_lineCount_L4B, e_Let ⟨by omega, by omega⟩ (by omega)]
      have : nl r = 0 := by omega
      rw [this]
      rfl
  | succ m ih =>
    intro n c r M hc hn hr hl
    cases n with
    | zero => omega
    | succ n =>
      rw [dn_X4_lineCount_L4, dn_X4_lineCount_L4B, e_Lef ⟨by omega, by omega⟩ (by omega), e_LtL ⟨by omega, by omega⟩]
      rcases Nat.eq_zero_or_pos r with h | h
      · subst h
        rw [if_neg (by omega), nl_0]
        rfl
      · have hs := nl_s h hr
        rw [if_pos (by omega), e_DvL ⟨⟨by omega, by omega⟩, by omega⟩, show (r : Int) / 32 = ((r / 32 : Nat) : Int) by omega, show ((c : Int) + 1) = ((c + 1 : Nat) : Int) by omega, ih n (c + 1) (r / 32) M (by omega) (by omega) (by omega) (by omega)]
        congr 2
        omega
theorem ev_lineCount {t : Nat} (h : t < 9223372036854775808) (hl : nl t ≤ 12) (M : fMem) : dn_X4_lineCount (t : Int) M = some ((nl t : Int), M) := by
  rw [dn_X4_lineCount]
  have := ev_lineCount_L (t : Int) 12 600 0 t M (by omega) (by omega) h hl
  simpa using this
theorem ev_size_L (a0 : Int) : ∀ (m n c r : Nat) (M : fMem), m < n → r < 9223372036854775808 → nl r ≤ m → dn_X6_size_L4 a0 n (c : Int) (r : Int) M = some (((c + nl r : Nat) : Int), M) := by
  intro m
  induction m with
  | zero =>
    intro n c r M hn hr hl
    cases n with
    | zero => omega
    | succ n =>
      rw [dn_X6_size_L4, dn_X6_size_L4B, e_LtL ⟨by omega, by omega⟩]
      have h0 : r = 0 := by
        have := nl_lt 0 r hr hl
        simpa using this
      subst h0
      rw [if_neg (by omega), nl_0]
      rfl
  | succ m ih =>
    intro n c r M hn hr hl
    cases n with
    | zero => omega
    | succ n =>
      rw [dn_X6_size_L4, dn_X6_size_L4B, e_LtL ⟨by omega, by omega⟩]
      rcases Nat.eq_zero_or_pos r with h | h
      · subst h
        rw [if_neg (by omega), nl_0]
        rfl
      · have hs := nl_s h hr
        rw [if_pos (by omega), e_DvL ⟨⟨by omega, by omega⟩, by omega⟩, show (r : Int) / 32 = ((r / 32 : Nat) : Int) by omega, show ((c : Int) + 1) = ((c + 1 : Nat) : Int) by omega, ih n (c + 1) (r / 32) M (by omega) (by omega) (by omega)]
        congr 2
        omega
theorem nl_13 (t : Nat) : nl t ≤ 13 := by
  have : ∀ n t, nlF n t ≤ n := by
    intro n
    induction n with
    | zero => intro t; exact Nat.le_refl _
    | succ n ih =>
      intro t
      show (if t = 0 then 0 else nlF n (t / 32) + 1) ≤ n + 1
      split
      · omega
      · have := ih (t / 32); omega
  exact this 13 t
theorem ev_size {t : Nat} (h : t < 9223372036854775808) (M : fMem) : dn_X6_size (t : Int) M = some ((nl t : Int), M) := by
  rw [dn_X6_size]
  have := ev_size_L (t : Int) 13 600 0 t M (by omega) h (nl_13 t)
  simpa using this
theorem ev_lineOf {t k : Nat} (h : t < 4611686018427387904) (hk : k < nl t) (M : fMem) : dn_X6_lineOf (t : Int) (k : Int) M = some ((dg t k : Int), M) := by
  have h13 := nl_13 t
  rw [dn_X6_lineOf, e_Cl (ev_size (by omega) M)]
  rw [e_Sh ⟨⟨by omega, by omega⟩, by omega, by omega⟩]
  have e1 : (5 * (((nl t : Int) - 1) - (k : Int))).toNat = 5 * (nl t - 1 - k) := by omega
  rw [e1]
  have e2' : (t : Int) / (2 ^ (5 * (nl t - 1 - k)) : Int) = ((t / 32 ^ (nl t - 1 - k) : Nat) : Int) := by
    rw [Int.natCast_ediv, Int.natCast_pow, Int.pow_mul]
    rfl
  rw [e2']
  have hb : t / 32 ^ (nl t - 1 - k) ≤ t := Nat.div_le_self _ _
  have hg : dg t k = t / 32 ^ (nl t - 1 - k) % 32 := rfl
  rw [hg]
  generalize t / 32 ^ (nl t - 1 - k) = q at hb ⊢
  rw [e_A31 ⟨by omega, by omega, by omega⟩]
  rfl
def anyF (p : Nat → Bool) : Nat → Nat → Bool
  | _, 0 => false
  | k, m + 1 => p k || anyF p (k + 1) m
theorem anyF_iff (p : Nat → Bool) : ∀ m k, anyF p k m = true ↔ ∃ j, k ≤ j ∧ j < k + m ∧ p j = true := by
  intro m
  induction m with
  | zero =>
    intro k
    simp [anyF]
    intro j h1 h2
    omega
  | succ m ih =>
    intro k
    simp only [anyF, Bool.or_eq_true]
    rw [ih]
    constructor
    · rintro (h | ⟨j, h1, h2, h3⟩)
      · exact ⟨k, by omega, by omega, h⟩
      · exact ⟨j, by omega, by omega, h3⟩
    · rintro ⟨j, h1, h2, h3⟩
      by_cases hj : j = k
      · subst hj; exact Or.inl h3
      · exact Or.inr ⟨j, by omega, by omega, h3⟩
theorem ev_noText_L {t : Nat} (h : t < 4611686018427387904) : ∀ (m n k : Nat) (B : Bool) (M : fMem), k + m = nl t → m < n → dn_X6_noText_L21 (t : Int) n (b2 (B = true)) (k : Int) M = some (b2 ((B || anyF (fun j => decide (dg t j < 1) || decide (19 < dg t j)) k m) = true), M) := by
  intro m
  have h13 := nl_13 t
  induction m with
  | zero =>
    intro n k B M hk hn
    cases n with
    | zero => omega
    | succ n =>
      rw [dn_X6_noText_L21, dn_X6_noText_L21B, e_Cl (ev_size (by omega) M), e_Let ⟨by omega, by omega⟩ (by omega), fRz_b2]
      simp [anyF]
  | succ m ih =>
    intro n k B M hk hn
    cases n with
    | zero => omega
    | succ n =>
      have hd := bd_lt t (nl t - 1 - k)
      have hd2 : dg t k < 32 := hd
      rw [dn_X6_noText_L21, dn_X6_noText_L21B, e_Cl (ev_size (by omega) M), e_Lef ⟨by omega, by omega⟩ (by omega), fEq_b2, e_Cl (ev_lineOf h (by omega) M), e_Cl (ev_lineOf h (by omega) M), e_Lt ⟨by omega, by omega⟩, e_Le ⟨by omega, by omega⟩]
      simp only [dn_X6_noText_J57, dn_X6_noText_J52]
      have e1 := ih n (k + 1) true M (by omega) (by omega)
      have e0 := ih n (k + 1) false M (by omega) (by omega)
      rw [b2_t rfl, show ((k + 1 : Nat) : Int) = (k : Int) + 1 by omega] at e1
      rw [b2_f (by decide), show ((k + 1 : Nat) : Int) = (k : Int) + 1 by omega] at e0
      rw [e1, e0]
      cases B with
      | true => simp
      | false =>
        rw [if_neg (by decide)]
        by_cases h1 : (dg t k : Int) < 1
        · rw [if_pos h1]
          simp [anyF, show dg t k < 1 by omega]
        · rw [if_neg h1]
          by_cases h2 : (dg t k : Int) ≤ 19
          · rw [if_pos h2]
            simp [anyF, show ¬ dg t k < 1 by omega, show ¬ 19 < dg t k by omega]
          · rw [if_neg h2]
            simp [anyF, show 19 < dg t k by omega]
theorem ev_hasMarks6_L {t : Nat} (h : t < 4611686018427387904) : ∀ (m n k : Nat) (B : Bool) (M : fMem), k + m = nl t → m < n → dn_X6_hasMarks_L4 (t : Int) n (b2 (B = true)) (k : Int) M = some (b2 ((B || anyF (fun j => decide (16 < dg t j)) k m) = true), M) := by
  intro m
  have h13 := nl_13 t
  induction m with
  | zero =>
    intro n k B M hk hn
    cases n with
    | zero => omega
    | succ n =>
      rw [dn_X6_hasMarks_L4, dn_X6_hasMarks_L4B, e_Cl (ev_size (by omega) M), e_Let ⟨by omega, by omega⟩ (by omega), fRz_b2]
      simp [anyF]
  | succ m ih =>
    intro n k B M hk hn
    cases n with
    | zero => omega
    | succ n =>
      have hd := bd_lt t (nl t - 1 - k)
      have hd2 : dg t k < 32 := hd
      rw [dn_X6_hasMarks_L4, dn_X6_hasMarks_L4B, e_Cl (ev_size (by omega) M), e_Lef ⟨by omega, by omega⟩ (by omega), fEq_b2, e_Cl (ev_lineOf h (by omega) M), e_Le ⟨by omega, by omega⟩]
      simp only [dn_X6_hasMarks_J31, dn_X6_hasMarks_J26]
      have e1 := ih n (k + 1) true M (by omega) (by omega)
      have e0 := ih n (k + 1) false M (by omega) (by omega)
      rw [b2_t rfl, show ((k + 1 : Nat) : Int) = (k : Int) + 1 by omega] at e1
      rw [b2_f (by decide), show ((k + 1 : Nat) : Int) = (k : Int) + 1 by omega] at e0
      rw [e1, e0]
      cases B with
      | true => simp
      | false =>
        rw [if_neg (by decide)]
        by_cases h2 : (dg t k : Int) ≤ 16
        · rw [if_pos h2]
          simp [anyF, show ¬ 16 < dg t k by omega]
        · rw [if_neg h2]
          simp [anyF, show 16 < dg t k by omega]
/-- lines counted from the end are lines counted from the start -/
theorem dg_bd {t : Nat} {Q : Nat → Prop} : (∃ j, j < nl t ∧ Q (dg t j)) ↔ ∃ j, j < nl t ∧ Q (bd t j) := by
  constructor
  · rintro ⟨j, h1, h2⟩
    exact ⟨nl t - 1 - j, by omega, h2⟩
  · rintro ⟨j, h1, h2⟩
    refine ⟨nl t - 1 - j, by omega, ?_⟩
    unfold dg
    rwa [show nl t - 1 - (nl t - 1 - j) = j by omega]
theorem ev_noText {t : Int} (h : InL t) (M : fMem) : dn_X6_noText t M = some (b2 (¬ (0 ≤ t ∧ okR 12 t.toNat = true)), M) := by
  rw [dn_X6_noText, e_LtL ⟨h, by omega⟩]
  by_cases h0 : t < 0
  · rw [if_pos h0, fRz_1, b2_t (by omega)]
  · rw [if_neg h0]
    obtain ⟨r, rfl⟩ := Int.eq_ofNat_of_zero_le (show 0 ≤ t by omega)
    have h13 := nl_13 r
    have hr : r < 9223372036854775808 := by omega
    rw [show ((r : Nat) : Int) = ((r : Nat) : Int) from rfl]
    have es := ev_size hr M
    rw [e_Cl (M := M) (v := (nl r : Int)) es, e_Le ⟨by omega, by omega⟩]
    have hk := okR_iff 12 r hr
    by_cases h1 : (nl r : Int) ≤ 12
    · rw [if_pos h1]
      have hlt : r < 32 ^ 12 := nl_lt 12 r hr (by omega)
      have e := ev_noText_L (t := r) (by omega) (nl r) 600 0 false M (by omega) (by omega)
      rw [b2_f (by decide), show ((0 : Nat) : Int) = 0 from rfl] at e
      rw [e]
      congr 2
      apply b2_congr
      rw [Bool.false_or, anyF_iff]
      have e2 := dg_bd (t := r) (Q := fun x => x < 1 ∨ 19 < x)
      simp only [Nat.zero_le, true_and, Nat.zero_add, Bool.or_eq_true, decide_eq_true_eq, Int.toNat_natCast]
      rw [e2]
      constructor
      · rintro ⟨j, h2, h3⟩ ⟨-, q⟩
        have := (hk.mp q).2 j h2
        omega
      · intro q
        apply Classical.byContradiction
        intro q2
        apply q
        refine ⟨by omega, hk.mpr ⟨by omega, fun j hj => ?_⟩⟩
        apply Classical.byContradiction
        intro q3
        exact q2 ⟨j, hj, by omega⟩
    · rw [if_neg h1, fRz_1, b2_t]
      rintro ⟨-, q⟩
      have := (hk.mp q).1
      omega
theorem ev_hasMarks6 {t : Int} (h : InL t) (ho : 0 ≤ t ∧ okR 12 t.toNat = true) (M : fMem) : dn_X6_hasMarks t M = some (b2 (mkR 12 t.toNat = true), M) := by
  obtain ⟨r, rfl⟩ := Int.eq_ofNat_of_zero_le ho.1
  have hr : r < 9223372036854775808 := by omega
  have hk := ((okR_iff 12 r hr).mp ho.2).1
  have hlt : r < 32 ^ 12 := nl_lt 12 r hr hk
  rw [dn_X6_hasMarks]
  have e := ev_hasMarks6_L (t := r) (by omega) (nl r) 600 0 false M (by omega) (by omega)
  rw [b2_f (by decide), show ((0 : Nat) : Int) = 0 from rfl] at e
  rw [e]
  congr 2
  apply b2_congr
  rw [Bool.false_or, anyF_iff]
  have e2 := dg_bd (t := r) (Q := fun x => 16 < x)
  simp only [Nat.zero_le, true_and, Nat.zero_add, decide_eq_true_eq, Int.toNat_natCast]
  rw [e2, mkR_iff 12 r hr hk]
  rfl
