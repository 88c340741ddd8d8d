/-! what merging makes is a text, if it is short enough -/
def lnOk (t : Nat) : Prop := ∀ k, k < nl t → 1 ≤ dg t k ∧ dg t k ≤ 19
theorem lnOk_of {t : Nat} (ht : t < 9223372036854775808) (h : okR 12 t = true) : lnOk t ∧ nl t ≤ 12 := by
  have h1 := (okR_iff 12 t ht).mp h
  exact ⟨fun k hk => h1.2 _ (by omega), h1.1⟩
theorem seg_ok {t s e : Nat} (h : lnOk t) (he : e ≤ nl t) : ∀ x ∈ seg t s e, 1 ≤ x ∧ x ≤ 19 := by
  intro x hx
  unfold seg at hx
  obtain ⟨y, hy, rfl⟩ := List.mem_map.mp hx
  have := List.mem_range.mp hy
  exact h _ (by omega)
theorem mpart_ok {o a b i e j ea k eb : Nat} {u : List Nat × Bool} (ha : lnOk a) (hb : lnOk b) (hea : ea ≤ nl a) (heb : eb ≤ nl b) (hu : ∀ x ∈ u.1, 1 ≤ x ∧ x ≤ 19) : ∀ x ∈ (mpart o a b i e j ea k eb u).1, 1 ≤ x ∧ x ≤ 19 := by
  have h1 := seg_ok (s := j) ha hea
  have h2 := seg_ok (s := k) hb heb
  unfold mpart
  intro x hx
  split at hx
  · rcases List.mem_append.mp hx with h | h
    · exact hu x h
    · exact h2 x h
  · split at hx
    · rcases List.mem_append.mp hx with h | h
      · exact hu x h
      · exact h1 x h
    · simp only [List.mem_append, List.mem_singleton] at hx
      rcases hx with ((((h | h) | h) | h) | h) | h
      · exact hu x h
      · omega
      · exact h1 x h
      · omega
      · exact h2 x h
      · omega
theorem mloop_ok {o a b : Nat} (ho : lnOk o) (ha : lnOk a) (hb : lnOk b) : ∀ (m x i j k : Nat) (u : List Nat × Bool), x + m = nl o → (∀ x ∈ u.1, 1 ≤ x ∧ x ≤ 19) → ∀ y ∈ (mloop o a b m x i j k u).2.2.2.1, 1 ≤ y ∧ y ≤ 19 := by
  intro m
  induction m with
  | zero => intro x i j k u _ hu; exact hu
  | succ m ih =>
    intro x i j k u hx hu
    show ∀ y ∈ (if par o a x ≠ -1 ∧ par o b x ≠ -1 then _ else _ : Nat × Nat × Nat × (List Nat × Bool)).2.2.2.1, _
    by_cases c : par o a x ≠ -1 ∧ par o b x ≠ -1
    · rw [if_pos c]
      have p1 := par_in o a x
      have p2 := par_in o b x
      refine ih (x + 1) _ _ _ _ (by omega) (fun y hy => ?_)
      rcases List.mem_append.mp hy with h | h
      · exact mpart_ok ha hb (by omega) (by omega) hu y h
      · rw [List.mem_singleton.mp h]
        exact ho x (by omega)
    · rw [if_neg c]
      exact ih (x + 1) i j k u (by omega) hu
theorem mres_ok {o a b : Nat} (ho : lnOk o) (ha : lnOk a) (hb : lnOk b) : ∀ y ∈ (mres o a b).1, 1 ≤ y ∧ y ≤ 19 :=
  mpart_ok ha hb (Nat.le_refl _) (Nat.le_refl _) (mloop_ok ho ha hb (nl o) 0 0 0 0 ([], false) (by omega) (fun x hx => by cases hx))
theorem pk_okR : ∀ (n : Nat) (l : List Nat), l.length = n → (∀ x ∈ l, 1 ≤ x ∧ x ≤ 19) → ∀ m, n ≤ m → okR m (pk l) = true := by
  intro n
  induction n with
  | zero =>
    intro l hl _ m _
    have : l = [] := List.length_eq_zero_iff.mp hl
    subst this
    exact okR_0 m
  | succ n ih =>
    intro l hl hx m hm
    obtain ⟨m, rfl⟩ : ∃ m', m = m' + 1 := ⟨m - 1, by omega⟩
    have hne : l ≠ [] := fun q => by rw [q] at hl; simp at hl
    obtain ⟨l0, y, rfl⟩ : ∃ l0 y, l = l0 ++ [y] := ⟨l.dropLast, l.getLast hne, (List.dropLast_concat_getLast hne).symm⟩
    have hy := hx y (by simp)
    have h1 := ih l0 (by simpa using hl) (fun x h => hx x (by simp [h])) m (by omega)
    rw [pk_snoc]
    have e1 : (pk l0 * 32 + y) % 32 = y := by omega
    have e2 : (pk l0 * 32 + y) / 32 = pk l0 := by omega
    simp only [okR, e1, e2, h1, Bool.and_true, Bool.or_eq_true, Bool.and_eq_true, decide_eq_true_eq]
    exact Or.inr hy
theorem pkl_lt : ∀ (n : Nat) (l : List Nat), l.length = n → (∀ x ∈ l, x < 32) → pk l < 32 ^ n := by
  intro n
  induction n with
  | zero =>
    intro l hl _
    have : l = [] := List.length_eq_zero_iff.mp hl
    subst this
    decide
  | succ n ih =>
    intro l hl hx
    have hne : l ≠ [] := fun q => by rw [q] at hl; simp at hl
    obtain ⟨l0, y, rfl⟩ : ∃ l0 y, l = l0 ++ [y] := ⟨l.dropLast, l.getLast hne, (List.dropLast_concat_getLast hne).symm⟩
    have hy := hx y (by simp)
    have h1 := ih l0 (by simpa using hl) (fun x h => hx x (by simp [h]))
    rw [pk_snoc, Nat.pow_succ]
    omega
/-! the state of one file, as a mathematical thing -/
/-- revisions, branches beside the trunk, vendor's branch, standard branch; text, death, home, rank of a revision; point, magic of a branch; what a tag names -/
abbrev FS : Type := Nat × Nat × Int × Int × (Nat → Int) × (Nat → Int) × (Nat → Int) × (Nat → Int) × (Nat → Int) × (Nat → Int) × (Nat → Int)
abbrev sn (A : FS) : Nat := A.1
abbrev sb (A : FS) : Nat := A.2.1
abbrev sv (A : FS) : Int := A.2.2.1
abbrev sd (A : FS) : Int := A.2.2.2.1
abbrev stx (A : FS) : Nat → Int := A.2.2.2.2.1
abbrev sdd (A : FS) : Nat → Int := A.2.2.2.2.2.1
abbrev sho (A : FS) : Nat → Int := A.2.2.2.2.2.2.1
abbrev srk (A : FS) : Nat → Int := A.2.2.2.2.2.2.2.1
abbrev spt (A : FS) : Nat → Int := A.2.2.2.2.2.2.2.2.1
abbrev smg (A : FS) : Nat → Int := A.2.2.2.2.2.2.2.2.2.1
abbrev snm (A : FS) : Nat → Int := A.2.2.2.2.2.2.2.2.2.2
/-- the last of the first n revisions on a branch -/
def lst (ho : Nat → Int) (b : Int) : Nat → Int
  | 0 => -1
  | n + 1 => if ho n = b then (n : Int) else lst ho b n
/-- how many of the first n revisions are on a branch -/
def cnt (ho : Nat → Int) (b : Int) : Nat → Nat
  | 0 => 0
  | n + 1 => (if ho n = b then 1 else 0) + cnt ho b n
def tipOf (A : FS) (b n : Nat) : Int := if lst (sho A) (b : Int) n = -1 then (if b = 0 then -1 else spt A b) else lst (sho A) (b : Int) n
theorem lst_in (ho : Nat → Int) (b : Int) : ∀ n, lst ho b n = -1 ∨ ∃ r : Nat, lst ho b n = (r : Int) ∧ r < n ∧ ho r = b ∧ ∀ k, r < k → k < n → ho k ≠ b := by
  intro n
  induction n with
  | zero => exact Or.inl rfl
  | succ n ih =>
    show (if ho n = b then (n : Int) else lst ho b n) = -1 ∨ _
    by_cases h : ho n = b
    · right
      refine ⟨n, ?_, by omega, h, fun k h1 h2 => by omega⟩
      show (if ho n = b then (n : Int) else lst ho b n) = _
      rw [if_pos h]
    · have e : lst ho b (n + 1) = lst ho b n := by
        show (if ho n = b then (n : Int) else lst ho b n) = _
        rw [if_neg h]
      rw [if_neg h]
      rcases ih with h1 | ⟨r, h1, h2, h3, h4⟩
      · exact Or.inl h1
      · right
        refine ⟨r, by rw [e]; exact h1, by omega, h3, fun k q1 q2 => ?_⟩
        by_cases hk : k = n
        · subst hk; exact h
        · exact h4 k q1 (by omega)
theorem lst_none {ho : Nat → Int} {b : Int} : ∀ {n : Nat}, lst ho b n = -1 → ∀ k, k < n → ho k ≠ b := by
  intro n
  induction n with
  | zero => intro _ k hk; omega
  | succ n ih =>
    intro h k hk
    have h' : (if ho n = b then (n : Int) else lst ho b n) = -1 := h
    by_cases hn : ho n = b
    · rw [if_pos hn] at h'; omega
    · rw [if_neg hn] at h'
      by_cases hkn : k = n
      · subst hkn; exact hn
      · exact ih h' k (by omega)
theorem cnt_le (ho : Nat → Int) (b : Int) : ∀ n, cnt ho b n ≤ n := by
  intro n
  induction n with
  | zero => exact Nat.le_refl _
  | succ n ih =>
    show (if ho n = b then 1 else 0) + cnt ho b n ≤ n + 1
    split <;> omega
theorem cnt_congr {ho ho' : Nat → Int} {b : Int} : ∀ {n : Nat}, (∀ k, k < n → ho' k = ho k) → cnt ho' b n = cnt ho b n := by
  intro n
  induction n with
  | zero => intro _; rfl
  | succ n ih =>
    intro h
    show (if ho' n = b then 1 else 0) + cnt ho' b n = (if ho n = b then 1 else 0) + cnt ho b n
    rw [h n (by omega), ih (fun k hk => h k (by omega))]
theorem lst_congr {ho ho' : Nat → Int} {b : Int} : ∀ {n : Nat}, (∀ k, k < n → ho' k = ho k) → lst ho' b n = lst ho b n := by
  intro n
  induction n with
  | zero => intro _; rfl
  | succ n ih =>
    intro h
    show (if ho' n = b then (n : Int) else lst ho' b n) = (if ho n = b then (n : Int) else lst ho b n)
    rw [h n (by omega), ih (fun k hk => h k (by omega))]
theorem cnt_mono (ho : Nat → Int) (b : Int) : ∀ {m n : Nat}, m ≤ n → cnt ho b m ≤ cnt ho b n := by
  intro m n h
  induction h with
  | refl => exact Nat.le_refl _
  | step _ ih =>
    rename_i n _
    show cnt ho b m ≤ (if ho n = b then 1 else 0) + cnt ho b n
    omega
theorem cnt_flat {ho : Nat → Int} {b : Int} : ∀ {m n : Nat}, m ≤ n → (∀ k, m ≤ k → k < n → ho k ≠ b) → cnt ho b n = cnt ho b m := by
  intro m n h
  induction h with
  | refl => intro _; rfl
  | step hs ih =>
    rename_i n
    intro hk
    show (if ho n = b then 1 else 0) + cnt ho b n = cnt ho b m
    rw [if_neg (hk n hs (by omega)), ih (fun k h1 h2 => hk k h1 (by omega)), Nat.zero_add]
