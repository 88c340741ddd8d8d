/-! evaluation: what the pieces of a computation are where nothing stands in the way -/
def b2 (c : Prop) [Decidable c] : Int := if c then 1 else 0
theorem b2_t {c : Prop} [Decidable c] (h : c) : b2 c = 1 := if_pos h
theorem b2_f {c : Prop} [Decidable c] (h : ¬ c) : b2 c = 0 := if_neg h
theorem b2_01 (c : Prop) [Decidable c] : b2 c = 0 ∨ b2 c = 1 := by
  unfold b2
  split
  · exact Or.inr rfl
  · exact Or.inl rfl
theorem b2_in (c : Prop) [Decidable c] : InI (b2 c) := by
  rcases b2_01 c with h | h <;> rw [h] <;> decide
theorem b2_congr {c e : Prop} [Decidable c] [Decidable e] (h : c ↔ e) : b2 c = b2 e := by
  unfold b2
  simp only [h]
section EV
variable {α : Type}
theorem fCl_some (v : Int) (M : fMem) (k : Int → fMem → Option α) : fCl (some (v, M)) k = k v M := rfl
theorem e_Cl {d : fOp} {v : Int} {M : fMem} {k : Int → fMem → Option α} (h : d = some (v, M)) : fCl d k = k v M := by rw [h]; rfl
theorem fRz_0 (M : fMem) : fRz 0 M = some (0, M) := by simp [fRz]
theorem fRz_1 (M : fMem) : fRz 1 M = some (1, M) := by simp [fRz]
theorem fRz_b2 (c : Prop) [Decidable c] (M : fMem) : fRz (b2 c) M = some (b2 c, M) := if_pos (b2_01 c)
theorem e_Rz {v : Int} {M : fMem} (h : v = 0 ∨ v = 1) : fRz v M = some (v, M) := if_pos h
theorem fEq_b2 (c : Prop) [Decidable c] (x y : Option α) : fEq (b2 c) 0 x y = if c then y else x := by
  unfold fEq
  rw [if_pos ⟨b2_in c, in0⟩]
  by_cases h : c
  · rw [b2_t h, if_pos h]; rfl
  · rw [b2_f h, if_neg h]; rfl
theorem e_Eq {a b : Int} {x y : Option α} (h : InI a ∧ InI b) : fEq a b x y = if a = b then x else y := if_pos h
theorem e_Lt {a b : Int} {x y : Option α} (h : InI a ∧ InI b) : fLt a b x y = if a < b then x else y := if_pos h
theorem e_Le {a b : Int} {x y : Option α} (h : InI a ∧ InI b) : fLe a b x y = if a ≤ b then x else y := if_pos h
theorem e_EqL {a b : Int} {x y : Option α} (h : InL a ∧ InL b) : fEqL a b x y = if a = b then x else y := if_pos h
theorem e_LtL {a b : Int} {x y : Option α} (h : InL a ∧ InL b) : fLtL a b x y = if a < b then x else y := if_pos h
theorem e_Eqt {a b : Int} {x y : Option α} (h : InI a ∧ InI b) (e : a = b) : fEq a b x y = x := by rw [e_Eq h, if_pos e]
theorem e_Eqf {a b : Int} {x y : Option α} (h : InI a ∧ InI b) (e : ¬ a = b) : fEq a b x y = y := by rw [e_Eq h, if_neg e]
theorem e_Ltt {a b : Int} {x y : Option α} (h : InI a ∧ InI b) (e : a < b) : fLt a b x y = x := by rw [e_Lt h, if_pos e]
theorem e_Ltf {a b : Int} {x y : Option α} (h : InI a ∧ InI b) (e : ¬ a < b) : fLt a b x y = y := by rw [e_Lt h, if_neg e]
theorem e_Let {a b : Int} {x y : Option α} (h : InI a ∧ InI b) (e : a ≤ b) : fLe a b x y = x := by rw [e_Le h, if_pos e]
theorem e_Lef {a b : Int} {x y : Option α} (h : InI a ∧ InI b) (e : ¬ a ≤ b) : fLe a b x y = y := by rw [e_Le h, if_neg e]
theorem e_Rd {M : fMem} {q n : Nat} {i : Int} {k : Int → Option α} (j : Nat) (h : i = (j : Int)) (hj : j < n) : fRd M q n i k = k (M q j) := by
  subst h
  unfold fRd
  rw [if_pos ⟨by omega, by omega⟩]
  rfl
theorem e_Wr {M : fMem} {q n : Nat} {i v : Int} {k : fMem → Option α} (j : Nat) (h : i = (j : Int)) (hj : j < n) : fWr M q n i v k = k (fup M q j v) := by
  subst h
  unfold fWr
  rw [if_pos ⟨by omega, by omega⟩]
  rfl
theorem e_Wz {M : fMem} {q n : Nat} {i v : Int} {k : fMem → Option α} (j : Nat) (h : i = (j : Int)) (hj : j < n) (hv : v = 0 ∨ v = 1) : fWz M q n i v k = k (fup M q j v) := by
  subst h
  unfold fWz
  rw [if_pos ⟨⟨by omega, by omega⟩, hv⟩]
  rfl
theorem e_Pz {M : fMem} {q j : Nat} {v : Int} {k : fMem → Option α} (hv : v = 0 ∨ v = 1) : fPz M q j v k = k (fup M q j v) := if_pos hv
theorem e_Ix {n b t : Nat} {i : Int} {k : Nat → Option α} (j : Nat) (h : i = (j : Int)) (hj : j < n) : fIx n b t i k = k (b + t * j) := by
  subst h
  unfold fIx
  rw [if_pos ⟨by omega, by omega⟩]
  rfl
theorem e_Ck {v : Int} {k : Nat → Option α} (P : Nat) (h : v = (P : Int)) (hP : 47 ≤ P ∧ P < 59) : fCk v k = k P := by
  subst h
  unfold fCk
  rw [if_pos (by simpa using hP)]
  rfl
theorem e_Mx {a b : Int} {k : Int → Option α} (h : InI a ∧ InI b) : fMx a b k = k (if a < b then b else a) := if_pos h
theorem e_DvL {a b : Int} {k : Int → Option α} (h : (0 ≤ a ∧ InL a) ∧ (0 < b ∧ InL b)) : fDvL a b k = k (a / b) := if_pos h
theorem e_RmL {a b : Int} {k : Int → Option α} (h : (0 ≤ a ∧ InL a) ∧ (0 < b ∧ InL b)) : fRmL a b k = k (a % b) := if_pos h
theorem e_DvI {a b : Int} {k : Int → Option α} (h : (0 ≤ a ∧ InI a) ∧ (0 < b ∧ InI b)) : fDvI a b k = k (a / b) := if_pos h
theorem e_RmI {a b : Int} {k : Int → Option α} (h : (0 ≤ a ∧ InI a) ∧ (0 < b ∧ InI b)) : fRmI a b k = k (a % b) := if_pos h
theorem e_Sh {t n : Int} {k : Int → Option α} (h : (0 ≤ t ∧ t < 4611686018427387904) ∧ (0 ≤ n ∧ n < 64)) : fSh t n k = k (t / 2 ^ n.toNat) := if_pos h
theorem e_A31 {t : Int} {k : Int → Option α} (h : 0 ≤ t ∧ InL t) : fA31 t k = k (t % 32) := if_pos h
theorem e_X2 {a : Int} {k : Option α} (h : InI a) : fX2 a k = k := if_pos h
end EV
/-! texts as numbers: their lines -/
def nlF : Nat → Nat → Nat
  | 0, _ => 0
  | n + 1, t => if t = 0 then 0 else nlF n (t / 32) + 1
def nl (t : Nat) : Nat := nlF 13 t
theorem nlF_st : ∀ (n t : Nat), t < 32 ^ n → nlF (n + 1) t = nlF n t := by
  intro n
  induction n with
  | zero =>
    intro t ht
    have : t = 0 := by simpa using ht
    subst this
    rfl
  | succ n ih =>
    intro t ht
    show (if t = 0 then 0 else nlF (n + 1) (t / 32) + 1) = (if t = 0 then 0 else nlF n (t / 32) + 1)
    rw [ih (t / 32) (by rw [Nat.pow_succ] at ht; omega)]
theorem nl_0 : nl 0 = 0 := rfl
theorem nl_s {t : Nat} (h : 0 < t) (ht : t < 9223372036854775808) : nl t = nl (t / 32) + 1 := by
  show (if t = 0 then 0 else nlF 12 (t / 32) + 1) = nlF 13 (t / 32) + 1
  rw [if_neg (by omega), nlF_st 12 (t / 32) (by omega)]
theorem nl_lt : ∀ (n t : Nat), t < 9223372036854775808 → nl t ≤ n → t < 32 ^ n := by
  intro n
  induction n with
  | zero =>
    intro t ht h
    rcases Nat.eq_zero_or_pos t with rfl | h0
    · decide
    · rw [nl_s h0 ht] at h; omega
  | succ n ih =>
    intro t ht h
    rcases Nat.eq_zero_or_pos t with rfl | h0
    · exact Nat.pow_pos (by decide)
    · rw [nl_s h0 ht] at h
      have := ih (t / 32) (by omega) (by omega)
      rw [Nat.pow_succ]
      omega
theorem nl_le : ∀ (n t : Nat), t < 9223372036854775808 → t < 32 ^ n → nl t ≤ n := by
  intro n
  induction n with
  | zero =>
    intro t ht h
    have : t = 0 := by simpa using h
    subst this
    exact Nat.le_refl _
  | succ n ih =>
    intro t ht h
    rcases Nat.eq_zero_or_pos t with rfl | h0
    · exact Nat.zero_le _
    · rw [nl_s h0 ht]
      have := ih (t / 32) (by omega) (by rw [Nat.pow_succ] at h; omega)
      omega
/-- the j-th line from the end -/
def bd (t j : Nat) : Nat := t / 32 ^ j % 32
theorem bd_0 (t : Nat) : bd t 0 = t % 32 := by simp [bd]
theorem bd_s (t j : Nat) : bd t (j + 1) = bd (t / 32) j := by
  unfold bd
  rw [Nat.pow_succ, Nat.mul_comm, Nat.div_div_eq_div_mul]
theorem bd_lt (t j : Nat) : bd t j < 32 := Nat.mod_lt _ (by decide)
/-- the k-th line -/
def dg (t k : Nat) : Nat := bd t (nl t - 1 - k)
def okR : Nat → Nat → Bool
  | 0, r => decide (r = 0)
  | m + 1, r => decide (r = 0) || (decide (1 ≤ r % 32) && decide (r % 32 ≤ 19) && okR m (r / 32))
def mkR : Nat → Nat → Bool
  | 0, _ => false
  | m + 1, r => decide (17 ≤ r % 32) || mkR m (r / 32)
theorem okR_0 (m : Nat) : okR m 0 = true := by cases m <;> simp [okR]
theorem mkR_0 : ∀ m : Nat, mkR m 0 = false := by
  intro m
  induction m with
  | zero => rfl
  | succ m ih => simp [mkR, ih]
theorem okR_iff : ∀ (m r : Nat), r < 9223372036854775808 → (okR m r = true ↔ nl r ≤ m ∧ ∀ j, j < nl r → 1 ≤ bd r j ∧ bd r j ≤ 19) := by
  intro m
  induction m with
  | zero =>
    intro r hr
    rcases Nat.eq_zero_or_pos r with rfl | h0
    · simp [okR, nl_0]
    · rw [nl_s h0 hr]
      simp [okR]
      omega
  | succ m ih =>
    intro r hr
    rcases Nat.eq_zero_or_pos r with rfl | h0
    · simp [okR_0, nl_0]
    · have h1 : okR (m + 1) r = (decide (1 ≤ r % 32) && decide (r % 32 ≤ 19) && okR m (r / 32)) := by
        simp [okR, show ¬ r = 0 by omega]
      rw [h1, nl_s h0 hr]
      simp only [Bool.and_eq_true, decide_eq_true_eq]
      rw [ih (r / 32) (by omega)]
      constructor
      · rintro ⟨⟨a, b⟩, c, e⟩
        refine ⟨by omega, fun j hj => ?_⟩
        cases j with
        | zero => rw [bd_0]; exact ⟨a, b⟩
        | succ j => rw [bd_s]; exact e j (by omega)
      · rintro ⟨a, b⟩
        have h2 := b 0 (by omega)
        rw [bd_0] at h2
        refine ⟨h2, by omega, fun j hj => ?_⟩
        have := b (j + 1) (by omega)
        rwa [bd_s] at this
theorem mkR_iff : ∀ (m r : Nat), r < 9223372036854775808 → nl r ≤ m → (mkR m r = true ↔ ∃ j, j < nl r ∧ 17 ≤ bd r j) := by
  intro m
  induction m with
  | zero =>
    intro r hr h
    simp [mkR]
    intro j hj
    omega
  | succ m ih =>
    intro r hr h
    rcases Nat.eq_zero_or_pos r with rfl | h0
    · simp [mkR_0, nl_0]
    · rw [nl_s h0 hr] at h ⊢
      simp only [mkR, Bool.or_eq_true, decide_eq_true_eq]
      rw [ih (r / 32) (by omega) (by omega)]
      constructor
      · rintro (a | ⟨j, hj, a⟩)
        · exact ⟨0, by omega, by rw [bd_0]; exact a⟩
        · exact ⟨j + 1, by omega, by rw [bd_s]; exact a⟩
      · rintro ⟨j, hj, a⟩
        cases j with
        | zero => rw [bd_0] at a; exact Or.inl a
        | succ j => rw [bd_s] at a; exact Or.inr ⟨j, by omega, a⟩
