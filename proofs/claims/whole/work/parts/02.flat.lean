/-! Flat worlds: every cell has a place; the memory is integers; one judgement for a walk. -/
abbrev fMem : Type := Nat → Nat → Int
abbrev fEn : Type := Nat × Nat × List (Nat × Nat)
abbrev InI (a : Int) : Prop := -2147483648 ≤ a ∧ a ≤ 2147483647
abbrev InL (a : Int) : Prop := -9223372036854775808 ≤ a ∧ a ≤ 9223372036854775807
def fI (a : Int) : Int32 := Int32.ofInt a
def fL (a : Int) : Int64 := Int64.ofInt a
def fup (M : fMem) (p j : Nat) (v : Int) : fMem := fun q i => if q = p ∧ i = j then v else M q i
theorem fup_self (M : fMem) (p j : Nat) (v : Int) : fup M p j v p j = v := by simp [fup]
theorem fup_ne {M : fMem} {p j : Nat} {v : Int} {q i : Nat} (h : ¬ (q = p ∧ i = j)) : fup M p j v q i = M q i := by simp [fup, h]
theorem fI_toInt {a : Int} (h : InI a) : (fI a).toInt = a := Int32.toInt_ofInt_of_le (by omega) (by omega)
theorem fL_toInt {a : Int} (h : InL a) : (fL a).toInt = a := Int64.toInt_ofInt_of_le (by omega) (by omega)
theorem fI_eq {a b : Int} (ha : InI a) (hb : InI b) : fI a = fI b ↔ a = b := by
  rw [← Int32.toInt_inj, fI_toInt ha, fI_toInt hb]
theorem fI_lt {a b : Int} (ha : InI a) (hb : InI b) : fI a < fI b ↔ a < b := by
  rw [Int32.lt_iff_toInt_lt, fI_toInt ha, fI_toInt hb]
theorem fI_le {a b : Int} (ha : InI a) (hb : InI b) : fI a ≤ fI b ↔ a ≤ b := by
  rw [Int32.le_iff_toInt_le, fI_toInt ha, fI_toInt hb]
theorem fL_eq {a b : Int} (ha : InL a) (hb : InL b) : fL a = fL b ↔ a = b := by
  rw [← Int64.toInt_inj, fL_toInt ha, fL_toInt hb]
theorem fL_lt {a b : Int} (ha : InL a) (hb : InL b) : fL a < fL b ↔ a < b := by
  rw [Int64.lt_iff_toInt_lt, fL_toInt ha, fL_toInt hb]
theorem fI_0 : fI 0 = 0 := by decide
theorem in0 : InI 0 := by decide
theorem fI_add (a b : Int) : fI a + fI b = fI (a + b) := (Int32.ofInt_add a b).symm
theorem fI_sub (a b : Int) : fI a - fI b = fI (a - b) := (Int32.ofInt_sub a b).symm
theorem fI_mul (a b : Int) : fI a * fI b = fI (a * b) := (Int32.ofInt_mul a b).symm
theorem fL_add (a b : Int) : fL a + fL b = fL (a + b) := (Int64.ofInt_add a b).symm
theorem fL_sub (a b : Int) : fL a - fL b = fL (a - b) := (Int64.ofInt_sub a b).symm
theorem fL_mul (a b : Int) : fL a * fL b = fL (a * b) := (Int64.ofInt_mul a b).symm
theorem fI_div {a b : Int} (ha : 0 ≤ a ∧ InI a) (hb : 0 < b ∧ InI b) : fI a / fI b = fI (a / b) := by
  have h := Int32.ofInt_tdiv (a := a) (b := b) (by rw [Int32.toInt_minValue]; omega) (by rw [Int32.toInt_maxValue]; omega) (by rw [Int32.toInt_minValue]; omega) (by rw [Int32.toInt_maxValue]; omega)
  rw [Int.tdiv_eq_ediv_of_nonneg ha.1] at h
  exact h.symm
theorem fI_rem {a b : Int} (ha : 0 ≤ a ∧ InI a) (hb : 0 < b ∧ InI b) : fI a - fI a / fI b * fI b = fI (a % b) := by
  rw [fI_div ha hb, fI_mul, fI_sub, Int.emod_def, Int.mul_comm b]
theorem fL_div {a b : Int} (ha : 0 ≤ a ∧ InL a) (hb : 0 < b ∧ InL b) : fL a / fL b = fL (a / b) := by
  have h := Int64.ofInt_tdiv (a := a) (b := b) (by rw [Int64.toInt_minValue]; omega) (by rw [Int64.toInt_maxValue]; omega) (by rw [Int64.toInt_minValue]; omega) (by rw [Int64.toInt_maxValue]; omega)
  rw [Int.tdiv_eq_ediv_of_nonneg ha.1] at h
  exact h.symm
theorem fL_rem {a b : Int} (ha : 0 ≤ a ∧ InL a) (hb : 0 < b ∧ InL b) : fL a - fL a / fL b * fL b = fL (a % b) := by
  rw [fL_div ha hb, fL_mul, fL_sub, Int.emod_def, Int.mul_comm b]
theorem fI_ne0 {b : Int} (hb : 0 < b ∧ InI b) : ¬ fI b = 0 := by
  rw [← fI_0, fI_eq hb.2 in0]; omega
theorem fL_ne0 {b : Int} (hb : 0 < b ∧ InL b) : ¬ fL b = 0 := by
  rw [show (0 : Int64) = fL 0 by decide, fL_eq hb.2 (by decide)]; omega
theorem fI_i2l {a : Int} (h : InI a) : (fI a).toInt64 = fL a :=
  Int32.toInt64_ofInt (by rw [Int32.toInt_minValue]; omega) (by rw [Int32.toInt_maxValue]; omega)
theorem fL_l2i (a : Int) : (fL a).toInt32 = fI a := Int64.toInt32_ofInt
theorem fI_clamp {a : Int} {n : Nat} (h : 0 ≤ a ∧ a < (n : Int)) (hn : n ≤ 2147483648) : (fI a).toNatClampNeg = a.toNat :=
  Int32.toNatClampNeg_ofInt_of_le (by omega) (by omega)
theorem fI_in {a : Int} {n : Nat} (h : 0 ≤ a ∧ a < (n : Int)) (hn : n ≤ 2147483648) : vp_in (fI a) n := by
  unfold vp_in
  rw [fI_clamp h hn, ← fI_0, fI_lt (by omega) in0]
  omega
theorem fI_ofNat (n : Nat) : Int32.ofNat n = fI (n : Int) := Int32.ofInt_eq_ofNat.symm
theorem fI_back (x : Int32) : fI x.toInt = x := Int32.ofInt_toInt x
theorem fL_back (x : Int64) : fL x.toInt = x := Int64.ofInt_toInt x
theorem fI_bool {a : Int} (h : a = 0 ∨ a = 1) : narrow .boolean (.int (fI a)) = .int (fI a) := by
  rcases h with rfl | rfl <;> decide
theorem fI_boolN {a : Int} (h : a = 0 ∨ a = 1) : vp_nar .boolean (fI a) = fI a := by
  unfold vp_nar
  rw [fI_bool h]
theorem fI_boolF {a : Int} (h : a = 0 ∨ a = 1) : fits .boolean (.int (fI a)) = true := by
  rcases h with rfl | rfl <;> decide
theorem fL_lN (n : Nat) : lN n = fL (n : Int) := Int64.ofInt_eq_ofNat.symm
theorem fI_s63 : ∀ k : Nat, k < 64 → (((fI (k : Int)).toInt64 &&& 63).toBitVec.smod 64).toNat = k := by decide +kernel
theorem fL_shr {t n : Int} (ht : 0 ≤ t ∧ t < 4611686018427387904) (hn : 0 ≤ n ∧ n < 64) : fL t >>> ((fI n).toInt64 &&& 63) = fL (t / 2 ^ n.toNat) := by
  obtain ⟨a, rfl⟩ := Int.eq_ofNat_of_zero_le ht.1
  obtain ⟨k, rfl⟩ := Int.eq_ofNat_of_zero_le hn.1
  have hk : k < 64 := by omega
  have ha : a < 2 ^ 62 := by omega
  have e := pf_shr (a := a) (d := k) (D := (fI (k : Int)).toInt64 &&& 63) (fI_s63 k hk) ha
  rw [fL_lN, fL_lN] at e
  rw [e]
  congr 1
theorem fL_and31 {t : Int} (ht : 0 ≤ t ∧ InL t) : fL t &&& fL 31 = fL (t % 32) := by
  obtain ⟨a, rfl⟩ := Int.eq_ofNat_of_zero_le ht.1
  have e := wb_mask (n := a) (k := 5) (by omega) (by decide)
  rw [fL_lN, fL_lN, fL_lN] at e
  exact e
/-! cells -/
def fRf (ad : Nat → Nat) (q : Option (Nat × Nat)) : Option Nat := match q with
  | some (2, x) => some (ad x)
  | _ => none
def fVal (ad : Nat → Nat) (x : Int) (q : Nat × Nat) : Value := match q with
  | (0, _) => .int (fI x)
  | (1, _) => .long (fL x)
  | (2, y) => .ref (ad y)
  | _ => .null
def fEnt (aC : Nat → ClassId) (ad : Nat → Nat) (Mp : Nat → Int) (e : fEn) : va_E := match e with
  | (0, n, _) => .inl (aC 0, n, .inl (fun j => fI (Mp j)))
  | (1, n, _) => .inl (aC 1, n, .inl (fun j => fI (Mp j)))
  | (2, n, _) => .inl (aC 2, n, .inr (.inl (fun j => fL (Mp j))))
  | (3, k, qs) => .inl (aC k, qs.length, .inr (.inr (.inr (.inr (fun j => fRf ad (qs[j]?))))))
  | (_, ci, fs) => .inr (ci, fs.mapIdx (fun k q => fVal ad (Mp k) q))
def fW (aC : Nat → ClassId) (ad : Nat → Nat) (tb : List fEn) (M : fMem) : va_W := tb.mapIdx (fun p e => (ad p, fEnt aC ad (M p) e))
theorem fW_get {aC : Nat → ClassId} {ad : Nat → Nat} {tb : List fEn} {M : fMem} {p : Nat} {e : fEn} (h : tb[p]? = some e) : (fW aC ad tb M)[p]? = some (ad p, fEnt aC ad (M p) e) := by
  simp [fW, h]
theorem fW_of {aC : Nat → ClassId} {ad : Nat → Nat} {tb : List fEn} {M : fMem} {p : Nat} {x : Nat × va_E} (h : (fW aC ad tb M)[p]? = some x) : ∃ e, tb[p]? = some e ∧ x = (ad p, fEnt aC ad (M p) e) := by
  unfold fW at h
  rw [List.getElem?_mapIdx] at h
  cases he : tb[p]? with
  | none => rw [he] at h; cases h
  | some e => rw [he] at h; exact ⟨e, rfl, (Option.some.inj h).symm⟩
theorem fW_set {aC : Nat → ClassId} {ad : Nat → Nat} {tb : List fEn} {M M' : fMem} {p : Nat} {e : fEn} {E : va_E} (h : tb[p]? = some e) (hE : E = fEnt aC ad (M' p) e) (hM : ∀ q, q ≠ p → M' q = M q) : (fW aC ad tb M).set p (ad p, E) = fW aC ad tb M' := by
  subst hE
  have hl : p < (fW aC ad tb M).length := by
    have := (List.getElem?_eq_some_iff.mp h).1
    simpa [fW] using this
  apply List.ext_getElem?
  intro k
  by_cases hk : k = p
  · subst hk
    rw [List.getElem?_set_self hl, fW_get h]
  · rw [List.getElem?_set_ne (Ne.symm hk)]
    simp only [fW, List.getElem?_mapIdx, hM k hk]
def fInj (ad : Nat → Nat) (n : Nat) : Prop := ∀ i j, i < n → j < n → ad i = ad j → i = j
theorem fW_D {aC : Nat → ClassId} {ad : Nat → Nat} {tb : List fEn} {M : fMem} {A : Nat → Prop} (hi : fInj ad tb.length) (hA : ∀ i, i < tb.length → A (ad i)) : va_D A (fW aC ad tb M) := by
  refine ⟨fun i j x y hx hy hxy => ?_, fun k q hk => ?_⟩
  · obtain ⟨e1, h1, rfl⟩ := fW_of hx
    obtain ⟨e2, h2, rfl⟩ := fW_of hy
    exact hi i j (List.getElem?_eq_some_iff.mp h1).1 (List.getElem?_eq_some_iff.mp h2).1 hxy
  · obtain ⟨e1, h1, rfl⟩ := fW_of hk
    exact hA k (List.getElem?_eq_some_iff.mp h1).1
theorem fup_row (M : fMem) (p j : Nat) (v : Int) : fup M p j v p = fun i => if i = j then v else M p i := by
  funext i
  simp [fup]
theorem fup_off (M : fMem) (p j : Nat) (v : Int) (q : Nat) (h : q ≠ p) : fup M p j v q = M q := by
  funext i
  simp [fup, h]
