/-! merging, as lists of lines -/
def seg (t s e : Nat) : List Nat := (List.range (e - s)).map (fun x => dg t (s + x))
def pk (l : List Nat) : Nat := l.foldl (fun acc x => acc * 32 + x) 0
theorem pk_snoc (l : List Nat) (x : Nat) : pk (l ++ [x]) = pk l * 32 + x := by
  unfold pk
  rw [List.foldl_append]
  rfl
def sameF (t1 s1 t2 s2 : Nat) : Nat → Bool
  | 0 => true
  | m + 1 => sameF t1 s1 t2 s2 m && decide (dg t1 (s1 + m) = dg t2 (s2 + m))
theorem sameF_iff (t1 s1 t2 s2 : Nat) : ∀ m, sameF t1 s1 t2 s2 m = true ↔ ∀ x, x < m → dg t1 (s1 + x) = dg t2 (s2 + x) := by
  intro m
  induction m with
  | zero => simp [sameF]
  | succ m ih =>
    simp only [sameF, Bool.and_eq_true, decide_eq_true_eq, ih]
    constructor
    · rintro ⟨h1, h2⟩ x hx
      by_cases hxm : x = m
      · subst hxm; exact h2
      · exact h1 x (by omega)
    · intro h
      exact ⟨fun x hx => h x (by omega), h m (by omega)⟩
def same (t1 s1 e1 t2 s2 e2 : Nat) : Bool := decide ((e1 : Int) - (s1 : Int) = (e2 : Int) - (s2 : Int)) && sameF t1 s1 t2 s2 (e1 - s1)
theorem same_comm (t1 s1 e1 t2 s2 e2 : Nat) : same t1 s1 e1 t2 s2 e2 = same t2 s2 e2 t1 s1 e1 := by
  unfold same
  by_cases h : (e1 : Int) - (s1 : Int) = (e2 : Int) - (s2 : Int)
  · rw [decide_eq_true h, decide_eq_true h.symm, Bool.true_and, Bool.true_and, show e2 - s2 = e1 - s1 by omega]
    apply Bool.eq_iff_iff.mpr
    rw [sameF_iff, sameF_iff]
    exact ⟨fun q x hx => (q x hx).symm, fun q x hx => (q x hx).symm⟩
  · rw [decide_eq_false h, decide_eq_false (fun q => h q.symm)]
    rfl
def mpart (o a b i e j ea k eb : Nat) (u : List Nat × Bool) : List Nat × Bool :=
  if same o i e a j ea = true then (u.1 ++ seg b k eb, u.2)
  else if (same o i e b k eb || same a j ea b k eb) = true then (u.1 ++ seg a j ea, u.2)
  else ((((u.1 ++ [17]) ++ seg a j ea) ++ [18]) ++ seg b k eb ++ [19], true)
/-- the stable lines, one after another: starts of the open part, what has been taken -/
def mloop (o a b : Nat) : Nat → Nat → Nat → Nat → Nat → (List Nat × Bool) → Nat × Nat × Nat × (List Nat × Bool)
  | 0, _, i, j, k, u => (i, j, k, u)
  | m + 1, x, i, j, k, u => if par o a x ≠ -1 ∧ par o b x ≠ -1 then mloop o a b m (x + 1) (x + 1) ((par o a x).toNat + 1) ((par o b x).toNat + 1) ((mpart o a b i x j (par o a x).toNat k (par o b x).toNat u).1 ++ [dg o x], (mpart o a b i x j (par o a x).toNat k (par o b x).toNat u).2) else mloop o a b m (x + 1) i j k u
def mres (o a b : Nat) : List Nat × Bool :=
  let w := mloop o a b (nl o) 0 0 0 0 ([], false)
  mpart o a b w.1 (nl o) w.2.1 (nl a) w.2.2.1 (nl b) w.2.2.2
/-! pairs lie within -/
theorem pwk_in {a b : Nat} : ∀ (s i j : Nat) (F : Nat → Int), (∀ k, F k = -1 ∨ (0 ≤ F k ∧ F k < (nl b : Int) ∧ k < nl a)) → ∀ k, pwk a b s i j F k = -1 ∨ (0 ≤ pwk a b s i j F k ∧ pwk a b s i j F k < (nl b : Int) ∧ k < nl a) := by
  intro s
  induction s with
  | zero => intro i j F h; exact h
  | succ s ih =>
    intro i j F h
    show ∀ k, (if i < nl a then (if j < nl b then (if dg a i = dg b j then pwk a b s (i + 1) (j + 1) (pup F i (j : Int)) else (if lc a b (i + 1) j < lc a b i (j + 1) then pwk a b s i (j + 1) F else pwk a b s (i + 1) j F)) else F) else F) k = -1 ∨ _
    by_cases h1 : i < nl a
    · by_cases h2 : j < nl b
      · by_cases h3 : dg a i = dg b j
        · have := ih (i + 1) (j + 1) (pup F i (j : Int)) (fun k => by
            unfold pup
            by_cases hk : k = i
            · subst hk; rw [if_pos rfl]; right; omega
            · rw [if_neg hk]; exact h k)
          intro k
          show _ ∨ (0 ≤ (if i < nl a then (if j < nl b then (if dg a i = dg b j then pwk a b s (i + 1) (j + 1) (pup F i (j : Int)) else _) else F) else F) k ∧ (if i < nl a then (if j < nl b then (if dg a i = dg b j then pwk a b s (i + 1) (j + 1) (pup F i (j : Int)) else _) else F) else F) k < _ ∧ _)
          rw [if_pos h1, if_pos h2, if_pos h3]
          exact this k
        · by_cases h4 : lc a b (i + 1) j < lc a b i (j + 1)
          · intro k
            have := ih i (j + 1) F h k
            simp only [pwk, if_pos h1, if_pos h2, if_neg h3, if_pos h4]
            exact this
          · intro k
            have := ih (i + 1) j F h k
            simp only [pwk, if_pos h1, if_pos h2, if_neg h3, if_neg h4]
            exact this
      · intro k
        simp only [pwk, if_pos h1, if_neg h2]
        exact h k
    · intro k
      simp only [pwk, if_neg h1]
      exact h k
theorem par_in (a b k : Nat) : par a b k = -1 ∨ (0 ≤ par a b k ∧ par a b k < (nl b : Int) ∧ k < nl a) := pwk_in _ _ _ _ (fun _ => Or.inl rfl) k
/-! the class -/
/-- what has been taken, as the merger holds it -/
def cO (u : List Nat × Bool) (M : fMem) : Prop := M 78 3 = (u.1.length : Int) ∧ M 78 2 = (pk (u.1.take 12) : Int) ∧ M 78 4 = b2 (u.2 = true)
def f78 (M M' : fMem) : Prop := ∀ q k, q ≠ 78 → M' q k = M q k
theorem f78.trans {M M1 M2 : fMem} (h : f78 M M1) (h' : f78 M1 M2) : f78 M M2 := fun q k hq => (h' q k hq).trans (h q k hq)
theorem f78.rf (M : fMem) : f78 M M := fun _ _ _ => rfl
theorem take_snoc {l : List Nat} {x : Nat} (h : l.length < 12) : (l ++ [x]).take 12 = l.take 12 ++ [x] := by
  rw [List.take_of_length_le (by simp; omega), List.take_of_length_le (by omega)]
theorem take_full {l : List Nat} {x : Nat} (h : 12 ≤ l.length) : (l ++ [x]).take 12 = l.take 12 := by
  rw [List.take_append_of_le_length h]
theorem ev_take {u : List Nat × Bool} {M : fMem} (x : Nat) (hx : x < 1000) (hl : u.1.length < 100000) (h : cO u M) : ∃ M', dn_X3_take (x : Int) M = some (0, M') ∧ cO (u.1 ++ [x], u.2) M' ∧ f78 M M' := by
  obtain ⟨h1, h2, h3⟩ := h
  rw [dn_X3_take]
  simp only [fGt, fPt, dn_X3_take_J24, h1]
  by_cases h12 : (12 : Int) ≤ (u.1.length : Int)
  · rw [e_Let ⟨by omega, by omega⟩ h12]
    refine ⟨_, rfl, ⟨?_, ?_, ?_⟩, fun q k hq => fup_ne (by omega)⟩
    · rw [fup_self]; simp
    · rw [fup_ne (by omega), h2]
      show _ = (pk ((u.1 ++ [x]).take 12) : Int)
      rw [take_full (by omega)]
    · rw [fup_ne (by omega)]; exact h3
  · rw [e_Lef ⟨by omega, by omega⟩ h12, e_X2 (by omega)]
    rw [fup_ne (show ¬ (78 = 78 ∧ 3 = 2) by omega), h1]
    refine ⟨_, rfl, ⟨?_, ?_, ?_⟩, fun q k hq => by rw [fup_ne (by omega), fup_ne (by omega)]⟩
    · rw [fup_self]; simp
    · rw [fup_ne (by omega), fup_self, h2]
      show _ = (pk ((u.1 ++ [x]).take 12) : Int)
      rw [take_snoc (by omega), pk_snoc]
      omega
    · rw [fup_ne (by omega), fup_ne (by omega)]; exact h3
theorem seg_nil {t s e : Nat} (h : e ≤ s) : seg t s e = [] := by
  unfold seg
  rw [show e - s = 0 by omega]
  rfl
theorem seg_cons {t s e : Nat} (h : s < e) : seg t s e = dg t s :: seg t (s + 1) e := by
  unfold seg
  rw [show e - s = (e - (s + 1)) + 1 by omega, List.range_succ_eq_map, List.map_cons, List.map_map]
  congr 1
  apply List.map_congr_left
  intro x _
  show dg t (s + (x + 1)) = dg t (s + 1 + x)
  congr 1
  omega
theorem seg_len (t s e : Nat) : (seg t s e).length = e - s := by simp [seg]
theorem ev_takeAll_L {t : Nat} (Q : Nat) (hQ : Q ≠ 78) (a2 : Int) (e : Nat) (he : e ≤ nl t) (ht : nl t ≤ 12) : ∀ (m n s : Nat) (u : List Nat × Bool) (M : fMem), e - s ≤ m → m < n → u.1.length + m < 90000 → s < 1000 → (∀ i, i < nl t → M Q i = (dg t i : Int)) → cO u M → ∃ M', dn_X3_takeAll_L3 Q a2 (e : Int) n (s : Int) M = some (0, M') ∧ cO (u.1 ++ seg t s e, u.2) M' ∧ f78 M M' := by
  intro m
  induction m with
  | zero =>
    intro n s u M hm hn hl hs hR hO
    cases n with
    | zero => omega
    | succ n =>
      refine ⟨M, ?_, ?_, f78.rf M⟩
      · rw [dn_X3_takeAll_L3, dn_X3_takeAll_L3B, e_Let ⟨by omega, by omega⟩ (by omega)]
      · rw [seg_nil (by omega), List.append_nil]; exact hO
  | succ m ih =>
    intro n s u M hm hn hl hs hR hO
    cases n with
    | zero => omega
    | succ n =>
      rw [dn_X3_takeAll_L3, dn_X3_takeAll_L3B]
      by_cases hse : s < e
      · obtain ⟨M1, e1, e2, e3⟩ := ev_take (dg t s) (by have := dg_32 t s; omega) (by omega) hO
        obtain ⟨M2, f1, f2, f3⟩ := ih n (s + 1) (u.1 ++ [dg t s], u.2) M1 (by omega) (by omega) (by simp; omega) (by omega) (fun i hi => by rw [e3 _ _ hQ]; exact hR i hi) e2
        refine ⟨M2, ?_, ?_, e3.trans f3⟩
        · rw [e_Lef ⟨by omega, by omega⟩ (by omega), e_Rd s rfl (by omega), hR s (by omega), e_Cl e1, show ((s : Int) + 1) = ((s + 1 : Nat) : Int) by omega, f1]
        · rw [seg_cons hse]
          have : (u.1 ++ [dg t s]) ++ seg t (s + 1) e = u.1 ++ dg t s :: seg t (s + 1) e := by simp
          rw [← this]
          exact f2
      · refine ⟨M, ?_, ?_, f78.rf M⟩
        · rw [e_Let ⟨by omega, by omega⟩ (by omega)]
        · rw [seg_nil (by omega), List.append_nil]; exact hO
theorem ev_takeAll {t : Nat} (Q : Nat) (hQ : Q ≠ 78) (s e : Nat) (he : e ≤ nl t) (ht : nl t ≤ 12) (u : List Nat × Bool) (M : fMem) (hl : u.1.length < 80000) (hs : s < 1000) (hR : ∀ i, i < nl t → M Q i = (dg t i : Int)) (hO : cO u M) : ∃ M', dn_X3_takeAll Q (s : Int) (e : Int) M = some (0, M') ∧ cO (u.1 ++ seg t s e, u.2) M' ∧ f78 M M' := by
  rw [dn_X3_takeAll]
  exact ev_takeAll_L Q hQ (s : Int) e he ht 12 600 s u M (by omega) (by omega) (by omega) hs hR hO
theorem ev_isSame_L {t1 t2 : Nat} (Q1 Q2 : Nat) (s1 e1 s2 e2 : Nat) (h1 : e1 ≤ nl t1 ∧ nl t1 ≤ 12) (h2 : e2 ≤ nl t2 ∧ nl t2 ≤ 12) (hs : s1 < 1000 ∧ s2 < 1000) (hq : (e1 : Int) - (s1 : Int) = (e2 : Int) - (s2 : Int)) (M : fMem) (hR1 : ∀ i, i < nl t1 → M Q1 i = (dg t1 i : Int)) (hR2 : ∀ i, i < nl t2 → M Q2 i = (dg t2 i : Int)) : ∀ (m n x : Nat), x + m = e1 - s1 → m < n → sameF t1 s1 t2 s2 x = true → dn_X3_isSame_L16 Q1 Q2 (s1 : Int) (e1 : Int) (s2 : Int) (e2 : Int) n (x : Int) M = some (b2 (sameF t1 s1 t2 s2 (e1 - s1) = true), M) := by
  intro m
  induction m with
  | zero =>
    intro n x hx hn hF
    cases n with
    | zero => omega
    | succ n =>
      rw [dn_X3_isSame_L16, dn_X3_isSame_L16B, e_Let ⟨by omega, by omega⟩ (by omega), fRz_1, b2_t]
      rw [show e1 - s1 = x by omega]
      exact hF
  | succ m ih =>
    intro n x hx hn hF
    cases n with
    | zero => omega
    | succ n =>
      have d1 := dg_32 t1 (s1 + x)
      have d2 := dg_32 t2 (s2 + x)
      rw [dn_X3_isSame_L16, dn_X3_isSame_L16B, e_Lef ⟨by omega, by omega⟩ (by omega), e_Rd (s1 + x) (by omega) (by omega), e_Rd (s2 + x) (by omega) (by omega), hR1 _ (by omega), hR2 _ (by omega), e_Eq ⟨by omega, by omega⟩]
      by_cases hd : dg t1 (s1 + x) = dg t2 (s2 + x)
      · rw [if_pos (by omega), show ((x : Int) + 1) = ((x + 1 : Nat) : Int) by omega]
        exact ih n (x + 1) (by omega) (by omega) (by simp [sameF, hF, hd])
      · rw [if_neg (by omega), fRz_0, b2_f]
        intro q
        exact hd ((sameF_iff _ _ _ _ _).mp q x (by omega))
theorem ev_isSame {t1 t2 : Nat} (Q1 Q2 : Nat) (s1 e1 s2 e2 : Nat) (h1 : e1 ≤ nl t1 ∧ nl t1 ≤ 12) (h2 : e2 ≤ nl t2 ∧ nl t2 ≤ 12) (hs : s1 < 1000 ∧ s2 < 1000) (M : fMem) (hR1 : ∀ i, i < nl t1 → M Q1 i = (dg t1 i : Int)) (hR2 : ∀ i, i < nl t2 → M Q2 i = (dg t2 i : Int)) : dn_X3_isSame Q1 (s1 : Int) (e1 : Int) Q2 (s2 : Int) (e2 : Int) M = some (b2 (same t1 s1 e1 t2 s2 e2 = true), M) := by
  rw [dn_X3_isSame, e_Eq ⟨by omega, by omega⟩]
  by_cases hq : (e1 : Int) - (s1 : Int) = (e2 : Int) - (s2 : Int)
  · rw [if_pos hq]
    have := ev_isSame_L Q1 Q2 s1 e1 s2 e2 h1 h2 hs hq M hR1 hR2 (e1 - s1) 600 0 (by omega) (by omega) rfl
    rw [show ((0 : Nat) : Int) = 0 from rfl] at this
    rw [this]
    congr 2
    apply b2_congr
    simp [same, hq]
  · rw [if_neg hq, fRz_0, b2_f]
    simp [same, hq]
