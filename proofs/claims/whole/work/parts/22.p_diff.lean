/-! the longest common subsequence, and the pairing -/
def lrow (eq : Nat → Bool) (prev : Nat → Nat) : Nat → Nat
  | 0 => 0
  | b + 1 => if eq b = true then 1 + prev b else (if prev (b + 1) < lrow eq prev b then lrow eq prev b else prev (b + 1))
def lcr (A B : Nat → Nat) (n m : Nat) : Nat → Nat → Nat
  | 0 => fun _ => 0
  | x + 1 => lrow (fun y => decide (A (n - (x + 1)) = B (m - (y + 1)))) (lcr A B n m x)
def lc (a b i j : Nat) : Nat := lcr (dg a) (dg b) (nl a) (nl b) (nl a - i) (nl b - j)
theorem lc_i {a b i j : Nat} (h : nl a ≤ i) : lc a b i j = 0 := by
  unfold lc
  rw [show nl a - i = 0 by omega]
  rfl
theorem lcr_0 (A B : Nat → Nat) (n m : Nat) : ∀ x, lcr A B n m x 0 = 0 := by
  intro x
  cases x <;> rfl
theorem lc_j {a b i j : Nat} (h : nl b ≤ j) : lc a b i j = 0 := by
  unfold lc
  rw [show nl b - j = 0 by omega]
  exact lcr_0 _ _ _ _ _
theorem lcr_s (A B : Nat → Nat) (n m x y : Nat) : lcr A B n m (x + 1) (y + 1) = if A (n - (x + 1)) = B (m - (y + 1)) then 1 + lcr A B n m x y else (if lcr A B n m x (y + 1) < lcr A B n m (x + 1) y then lcr A B n m (x + 1) y else lcr A B n m x (y + 1)) := by
  show (if decide (A (n - (x + 1)) = B (m - (y + 1))) = true then _ else _) = _
  simp only [decide_eq_true_eq]
  rfl
theorem lc_s {a b i j : Nat} (hi : i < nl a) (hj : j < nl b) : lc a b i j = if dg a i = dg b j then 1 + lc a b (i + 1) (j + 1) else (if lc a b (i + 1) j < lc a b i (j + 1) then lc a b i (j + 1) else lc a b (i + 1) j) := by
  unfold lc
  obtain ⟨x, hx⟩ : ∃ x, nl a - i = x + 1 := ⟨nl a - i - 1, by omega⟩
  obtain ⟨y, hy⟩ : ∃ y, nl b - j = y + 1 := ⟨nl b - j - 1, by omega⟩
  rw [hx, hy, show nl a - (i + 1) = x by omega, show nl b - (j + 1) = y by omega]
  rw [lcr_s, show nl a - (x + 1) = i by omega, show nl b - (y + 1) = j by omega]
theorem lc_le {a b : Nat} : ∀ (s i j : Nat), (nl a - i) + (nl b - j) = s → lc a b i j ≤ nl a - i := by
  intro s
  induction s using Nat.strongRecOn with
  | _ s ih =>
    intro i j hs
    by_cases hi : i < nl a
    · by_cases hj : j < nl b
      · rw [lc_s hi hj]
        have h1 := ih ((nl a - (i + 1)) + (nl b - (j + 1))) (by omega) (i + 1) (j + 1) rfl
        have h2 := ih ((nl a - (i + 1)) + (nl b - j)) (by omega) (i + 1) j rfl
        have h3 := ih ((nl a - i) + (nl b - (j + 1))) (by omega) i (j + 1) rfl
        split
        · omega
        · split <;> omega
      · rw [lc_j (by omega)]; omega
    · rw [lc_i (by omega)]; omega
theorem lc_12 {a b : Nat} (ha : nl a ≤ 12) (i j : Nat) : lc a b i j ≤ 12 := by
  have := lc_le (a := a) (b := b) _ i j rfl
  omega
def pup (F : Nat → Int) (i : Nat) (v : Int) : Nat → Int := fun k => if k = i then v else F k
def pwk (a b : Nat) : Nat → Nat → Nat → (Nat → Int) → (Nat → Int)
  | 0, _, _, F => F
  | n + 1, i, j, F => if i < nl a then (if j < nl b then (if dg a i = dg b j then pwk a b n (i + 1) (j + 1) (pup F i (j : Int)) else (if lc a b (i + 1) j < lc a b i (j + 1) then pwk a b n i (j + 1) F else pwk a b n (i + 1) j F)) else F) else F
def par (a b : Nat) : Nat → Int := pwk a b (nl a + nl b) 0 0 (fun _ => -1)
/-! the class: the table of the rests -/
section PD
variable {P a b : Nat}
/-- what stands in the rows of a comparison before it measures -/
def dIn (P a b : Nat) (M : fMem) : Prop := M P 2 = (nl a : Int) ∧ M P 3 = (nl b : Int) ∧ (∀ i, i < nl a → M (P + 1) i = (dg a i : Int)) ∧ ∀ j, j < nl b → M (P + 2) j = (dg b j : Int)
def dFr (P : Nat) (M M' : fMem) : Prop := ∀ q k, ¬ (P + 4 ≤ q ∧ q < P + 17) → M' q k = M q k
theorem dIn.fr {M M' : fMem} (h : dIn P a b M) (hf : dFr P M M') : dIn P a b M' := by
  obtain ⟨h1, h2, h3, h4⟩ := h
  refine ⟨by rw [hf _ _ (by omega)]; exact h1, by rw [hf _ _ (by omega)]; exact h2, fun i hi => by rw [hf _ _ (by omega)]; exact h3 i hi, fun i hi => by rw [hf _ _ (by omega)]; exact h4 i hi⟩
/-- the entries of row i from column j on, and all rows below, are measured -/
def dCm (P a b : Nat) (M : fMem) (i j : Nat) : Prop := ∀ i' j', i' ≤ nl a → j' ≤ nl b → (i < i' ∨ (i' = i ∧ j ≤ j')) → M (P + 4 + i') j' = (lc a b i' j' : Int)
theorem dCm_put {M : fMem} {i j : Nat} (hj : j ≤ nl b) (h : dCm P a b M i (j + 1)) : dCm P a b (fup M (P + 4 + i) j (lc a b i j : Int)) i j := by
  intro i' j' h1 h2 h3
  by_cases h4 : i' = i ∧ j' = j
  · obtain ⟨rfl, rfl⟩ := h4
    rw [fup_self]
  · rw [fup_ne (by omega)]
    exact h i' j' h1 h2 (by omega)
theorem dFr_put {M M' : fMem} {i j : Nat} {v : Int} (hi : i ≤ 12) (h : dFr P (fup M (P + 4 + i) j v) M') : dFr P M M' := by
  intro q k hq
  rw [h q k hq, fup_ne (by omega)]
theorem dg_32 (t k : Nat) : dg t k < 32 := bd_lt t _
theorem ev_meas_in (ha : nl a ≤ 12) (hb : nl b ≤ 12) {i : Nat} (hi : i ≤ nl a) (x : Int → fMem → fOp) : ∀ (jj n : Nat) (M : fMem), jj < n → jj ≤ nl b + 1 → dIn P a b M → dCm P a b M i jj → ∃ M', dn_X1_measureRests_L14 P (i : Int) x n ((jj : Int) - 1) M = x (-1) M' ∧ dCm P a b M' i 0 ∧ dFr P M M' := by
  intro jj
  induction jj with
  | zero =>
    intro n M hn hj hI hC
    cases n with
    | zero => omega
    | succ n =>
      refine ⟨M, ?_, hC, fun _ _ _ => rfl⟩
      rw [dn_X1_measureRests_L14, dn_X1_measureRests_L14B, e_Ltt ⟨by omega, by omega⟩ (by omega)]
      rfl
  | succ j ih =>
    intro n M hn hj hI hC
    cases n with
    | zero => omega
    | succ n =>
      have key : ∃ M', dn_X1_measureRests_L14 P (i : Int) x n ((j : Int) - 1) (fup M (P + 4 + i) j (lc a b i j : Int)) = x (-1) M' ∧ dCm P a b M' i 0 ∧ dFr P (fup M (P + 4 + i) j (lc a b i j : Int)) M' :=
        ih n _ (by omega) (by omega) (hI.fr (fun q k hq => fup_ne (by omega))) (dCm_put (by omega) hC)
      obtain ⟨M', e1, e2, e3⟩ := key
      refine ⟨M', ?_, e2, dFr_put (by omega) e3⟩
      rw [← e1]
      obtain ⟨h1, h2, h3, h4⟩ := hI
      rw [dn_X1_measureRests_L14, dn_X1_measureRests_L14B, show ((j + 1 : Nat) : Int) - 1 = (j : Int) by omega, e_Ltf ⟨by omega, by omega⟩ (by omega)]
      simp only [fGt, h1, h2, dn_X1_measureRests_J34, dn_X1_measureRests_J117]
      rw [show ((j : Int) + -1) = (j : Int) - 1 by omega]
      have hw : ∀ (v : Int) (k : fMem → fOp), fIx 13 (P + 4) 1 (i : Int) (fun P4 => fWr M P4 13 (j : Int) v k) = k (fup M (P + 4 + i) j v) := by
        intro v k
        rw [e_Ix i rfl (by omega), e_Wr j rfl (by omega), Nat.one_mul]
      by_cases hia : i = nl a
      · rw [e_Eqt ⟨by omega, by omega⟩ (by omega), hw, lc_i (by omega)]
        rfl
      · rw [e_Eqf ⟨by omega, by omega⟩ (by omega)]
        by_cases hjb : j = nl b
        · rw [e_Eqt ⟨by omega, by omega⟩ (by omega), hw, lc_j (by omega)]
          rfl
        · have hi' : i < nl a := by omega
          have hj' : j < nl b := by omega
          have d1 := dg_32 a i
          have d2 := dg_32 b j
          rw [e_Eqf ⟨by omega, by omega⟩ (by omega), e_Rd i rfl (by omega), e_Rd j rfl (by omega), h3 i hi', h4 j hj', e_Eq ⟨by omega, by omega⟩, lc_s hi' hj']
          have l1 := lc_12 (b := b) ha (i + 1) (j + 1)
          have l2 := lc_12 (b := b) ha (i + 1) j
          have l3 := lc_12 (b := b) ha i (j + 1)
          by_cases hd : dg a i = dg b j
          · rw [if_pos (by omega), if_pos hd, e_Ix i rfl (by omega), e_Ix (i + 1) (by omega) (by omega), e_Rd (j + 1) (by omega) (by omega), Nat.one_mul, Nat.one_mul, hC (i + 1) (j + 1) (by omega) (by omega) (by omega), e_Wr j rfl (by omega)]
            congr 2
          · rw [if_neg (by omega), if_neg hd, e_Ix i rfl (by omega), e_Ix (i + 1) (by omega) (by omega), e_Rd j rfl (by omega), e_Ix i rfl (by omega), e_Rd (j + 1) (by omega) (by omega), Nat.one_mul, Nat.one_mul, hC (i + 1) j (by omega) (by omega) (by omega), hC i (j + 1) (by omega) (by omega) (by omega), e_Mx ⟨by omega, by omega⟩, e_Wr j rfl (by omega)]
            congr 2
            by_cases hl : lc a b (i + 1) j < lc a b i (j + 1)
            · rw [if_pos (by omega), if_pos hl]
            · rw [if_neg (by omega), if_neg hl]
theorem dFr.trans {M M1 M2 : fMem} (h : dFr P M M1) (h' : dFr P M1 M2) : dFr P M M2 := fun q k hq => (h' q k hq).trans (h q k hq)
theorem ev_meas_out (ha : nl a ≤ 12) (hb : nl b ≤ 12) : ∀ (ii n : Nat) (M : fMem), ii < n → ii ≤ nl a + 1 → dIn P a b M → (∀ i' j', ii ≤ i' → i' ≤ nl a → j' ≤ nl b → M (P + 4 + i') j' = (lc a b i' j' : Int)) → ∃ M', dn_X1_measureRests_L5 P n ((ii : Int) - 1) M = some (0, M') ∧ (∀ i' j', i' ≤ nl a → j' ≤ nl b → M' (P + 4 + i') j' = (lc a b i' j' : Int)) ∧ dFr P M M' := by
  intro ii
  induction ii with
  | zero =>
    intro n M hn hi hI hC
    cases n with
    | zero => omega
    | succ n =>
      refine ⟨M, ?_, fun i' j' h1 h2 => hC i' j' (by omega) h1 h2, fun _ _ _ => rfl⟩
      rw [dn_X1_measureRests_L5, dn_X1_measureRests_L5B, e_Ltt ⟨by omega, by omega⟩ (by omega)]
  | succ i ih =>
    intro n M hn hi hI hC
    cases n with
    | zero => omega
    | succ n =>
      obtain ⟨M1, e1, e2, e3⟩ := ev_meas_in (P := P) (a := a) (b := b) ha hb (i := i) (by omega) (fun y20 M21 => dn_X1_measureRests_L5 P n ((i : Int) + (-1)) M21) (nl b + 1) 600 M (by omega) (by omega) hI (fun i' j' h1 h2 h3 => hC i' j' (by omega) h1 h2)
      obtain ⟨M2, f1, f2, f3⟩ := ih n M1 (by omega) (by omega) (hI.fr e3) (fun i' j' h1 h2 h3 => e2 i' j' h2 h3 (by omega))
      refine ⟨M2, ?_, f2, e3.trans f3⟩
      rw [← f1, dn_X1_measureRests_L5, dn_X1_measureRests_L5B, show ((i + 1 : Nat) : Int) - 1 = (i : Int) by omega, e_Ltf ⟨by omega, by omega⟩ (by omega)]
      simp only [fGt, hI.2.1]
      rw [show ((nl b + 1 : Nat) : Int) - 1 = (nl b : Int) by omega] at e1
      rw [e1, show ((i : Int) + -1) = (i : Int) - 1 by omega]
theorem ev_measure (ha : nl a ≤ 12) (hb : nl b ≤ 12) {M : fMem} (hI : dIn P a b M) : ∃ M', dn_X1_measureRests P M = some (0, M') ∧ (∀ i' j', i' ≤ nl a → j' ≤ nl b → M' (P + 4 + i') j' = (lc a b i' j' : Int)) ∧ dFr P M M' := by
  obtain ⟨M', e1, e2, e3⟩ := ev_meas_out (P := P) ha hb (nl a + 1) 600 M (by omega) (by omega) hI (fun i' j' h1 h2 _ => by omega)
  refine ⟨M', ?_, e2, e3⟩
  rw [dn_X1_measureRests]
  simp only [fGt, hI.1]
  rw [show ((nl a + 1 : Nat) : Int) - 1 = (nl a : Int) by omega] at e1
  exact e1
/-! the class: the pairing -/
/-- the walk's counter: what is still to be paired is what the table says -/
theorem ev_pair_L (ha : nl a ≤ 12) (hb : nl b ≤ 12) : ∀ (s n i j : Nat) (M : fMem) (F : Nat → Int) (c : Nat), (nl a - i) + (nl b - j) ≤ s → s < n → i ≤ nl a → j ≤ nl b → dIn P a b M → (∀ i' j', i' ≤ nl a → j' ≤ nl b → M (P + 4 + i') j' = (lc a b i' j' : Int)) → (∀ k, k < 12 → M (P + 17) k = F k) → M P 6 = (c : Int) → c ≤ i →
    ∃ M', dn_X1_pairLines_L17 P n (i : Int) (j : Int) M = some (0, M') ∧ (∀ k, k < 12 → M' (P + 17) k = pwk a b s i j F k) ∧ M' P 6 = ((c + lc a b i j : Nat) : Int) ∧ ∀ q k, ¬ (q = P + 17 ∨ (q = P ∧ k = 6)) → M' q k = M q k := by
  intro s
  induction s with
  | zero =>
    intro n i j M F c hs hn hi hj hI hC hF hc hci
    cases n with
    | zero => omega
    | succ n =>
      refine ⟨M, ?_, hF, ?_, fun _ _ _ => rfl⟩
      · rw [dn_X1_pairLines_L17, dn_X1_pairLines_L17B]
        simp only [fGt, hI.1]
        rw [e_Let ⟨by omega, by omega⟩ (by omega)]
      · rw [lc_i (by omega)]; exact hc
  | succ s ih =>
    intro n i j M F c hs hn hi hj hI hC hF hc hci
    cases n with
    | zero => omega
    | succ n =>
      obtain ⟨h1, h2, h3, h4⟩ := hI
      rw [dn_X1_pairLines_L17, dn_X1_pairLines_L17B]
      simp only [fGt, h1, h2]
      by_cases hia : i < nl a
      · rw [e_Lef ⟨by omega, by omega⟩ (by omega)]
        by_cases hjb : j < nl b
        · have d1 := dg_32 a i
          have d2 := dg_32 b j
          have l2 := lc_12 (b := b) ha (i + 1) j
          have l3 := lc_12 (b := b) ha i (j + 1)
          have hp : pwk a b (s + 1) i j F = if dg a i = dg b j then pwk a b s (i + 1) (j + 1) (pup F i (j : Int)) else (if lc a b (i + 1) j < lc a b i (j + 1) then pwk a b s i (j + 1) F else pwk a b s (i + 1) j F) := by
            show (if i < nl a then (if j < nl b then _ else F) else F) = _
            rw [if_pos hia, if_pos hjb]
          rw [e_Lef ⟨by omega, by omega⟩ (by omega), e_Rd i rfl (by omega), e_Rd j rfl (by omega), h3 i hia, h4 j hjb, e_Eq ⟨by omega, by omega⟩, hp, lc_s hia hjb]
          by_cases hd : dg a i = dg b j
          · rw [if_pos (by omega), if_pos hd, if_pos hd, e_Wr i rfl (by omega)]
            simp only [fPt]
            rw [fup_ne (show ¬ (P = P + 17 ∧ 6 = i) by omega), hc, show ((i : Int) + 1) = ((i + 1 : Nat) : Int) by omega, show ((j : Int) + 1) = ((j + 1 : Nat) : Int) by omega, show ((c : Int) + 1) = ((c + 1 : Nat) : Int) by omega]
            have hfr : ∀ q k, ¬ (q = P + 17 ∨ (q = P ∧ k = 6)) → (fup (fup M (P + 17) i (j : Int)) P 6 ((c + 1 : Nat) : Int)) q k = M q k := fun q k hq => by rw [fup_ne (by omega), fup_ne (by omega)]
            obtain ⟨M', e1, e2, e3, e4⟩ := ih n (i + 1) (j + 1) (fup (fup M (P + 17) i (j : Int)) P 6 ((c + 1 : Nat) : Int)) (pup F i (j : Int)) (c + 1) (by omega) (by omega) (by omega) (by omega)
              ⟨by rw [hfr _ _ (by omega)]; exact h1, by rw [hfr _ _ (by omega)]; exact h2, fun k hk => by rw [hfr _ _ (by omega)]; exact h3 k hk, fun k hk => by rw [hfr _ _ (by omega)]; exact h4 k hk⟩
              (fun i' j' q1 q2 => by rw [hfr _ _ (by omega)]; exact hC i' j' q1 q2)
              (fun k hk => by
                rw [fup_ne (by omega)]
                unfold pup
                by_cases hki : k = i
                · subst hki; rw [if_pos rfl, fup_self]
                · rw [if_neg hki, fup_ne (by omega)]; exact hF k hk)
              (fup_self _ _ _ _) (by omega)
            refine ⟨M', e1, e2, ?_, fun q k hq => (e4 q k hq).trans (hfr q k hq)⟩
            rw [e3]
            omega
          · rw [if_neg (by omega), if_neg hd, if_neg hd, e_Ix (i + 1) (by omega) (by omega), e_Rd j rfl (by omega), e_Ix i rfl (by omega), e_Rd (j + 1) (by omega) (by omega), Nat.one_mul, Nat.one_mul, hC (i + 1) j (by omega) (by omega), hC i (j + 1) (by omega) (by omega), e_Lt ⟨by omega, by omega⟩]
            by_cases hl : lc a b (i + 1) j < lc a b i (j + 1)
            · rw [if_pos (by omega), if_pos hl, if_pos hl, show ((j : Int) + 1) = ((j + 1 : Nat) : Int) by omega]
              exact ih n i (j + 1) M F c (by omega) (by omega) hi (by omega) ⟨h1, h2, h3, h4⟩ hC hF hc hci
            · rw [if_neg (by omega), if_neg hl, if_neg hl, show ((i : Int) + 1) = ((i + 1 : Nat) : Int) by omega]
              exact ih n (i + 1) j M F c (by omega) (by omega) (by omega) hj ⟨h1, h2, h3, h4⟩ hC hF hc (by omega)
        · refine ⟨M, by rw [e_Let ⟨by omega, by omega⟩ (by omega)], fun k hk => ?_, by rw [lc_j (by omega)]; exact hc, fun _ _ _ => rfl⟩
          show _ = (if i < nl a then (if j < nl b then _ else F) else F) k
          rw [if_pos hia, if_neg hjb]
          exact hF k hk
      · refine ⟨M, by rw [e_Let ⟨by omega, by omega⟩ (by omega)], fun k hk => ?_, by rw [lc_i (by omega)]; exact hc, fun _ _ _ => rfl⟩
        show _ = (if i < nl a then _ else F) k
        rw [if_neg hia]
        exact hF k hk
theorem ev_pairLines (ha : nl a ≤ 12) (hb : nl b ≤ 12) {M : fMem} (hI : dIn P a b M) (hC : ∀ i' j', i' ≤ nl a → j' ≤ nl b → M (P + 4 + i') j' = (lc a b i' j' : Int)) : ∃ M', dn_X1_pairLines P M = some (0, M') ∧ (∀ k, k < 12 → M' (P + 17) k = par a b k) ∧ M' P 6 = (lc a b 0 0 : Int) ∧ ∀ q k, ¬ (q = P + 17 ∨ (q = P ∧ k = 6)) → M' q k = M q k := by
  obtain ⟨h1, h2, h3, h4⟩ := hI
  have hfr : ∀ q k, ¬ (q = P + 17 ∨ (q = P ∧ k = 6)) → (fup (fun p j => if p = P + 17 ∧ j < 12 then -1 else M p j) P 6 0) q k = M q k := fun q k hq => by
    rw [fup_ne (by omega)]
    rw [if_neg (by omega)]
  obtain ⟨M', e1, e2, e3, e4⟩ := ev_pair_L (P := P) ha hb (nl a + nl b) 600 0 0 (fup (fun p j => if p = P + 17 ∧ j < 12 then -1 else M p j) P 6 0) (fun _ => -1) 0 (by omega) (by omega) (by omega) (by omega)
    ⟨by rw [hfr _ _ (by omega)]; exact h1, by rw [hfr _ _ (by omega)]; exact h2, fun k hk => by rw [hfr _ _ (by omega)]; exact h3 k hk, fun k hk => by rw [hfr _ _ (by omega)]; exact h4 k hk⟩
    (fun i' j' q1 q2 => by rw [hfr _ _ (by omega)]; exact hC i' j' q1 q2)
    (fun k hk => by
      rw [fup_ne (by omega)]
      rw [if_pos ⟨rfl, hk⟩])
    (fup_self _ _ _ _) (by omega)
  refine ⟨M', ?_, e2, by rw [e3, Nat.zero_add], fun q k hq => (e4 q k hq).trans (hfr q k hq)⟩
  rw [← e1, dn_X1_pairLines, fFil, fCl_some]
  rfl
/-! the class: spreading a text over a row -/
theorem ev_spread_L {t : Nat} (Q : Nat) (hl : nl t ≤ 12) (ht : t < 9223372036854775808) (a3 : Int) : ∀ (m n r : Nat) (M : fMem), m < n → m ≤ nl t → r = t / 32 ^ (nl t - m) → ∃ M', dn_X4_spread_L13 Q (t : Int) a3 n (r : Int) ((m : Int) - 1) M = some (a3, M') ∧ (∀ i, i < m → M' Q i = (dg t i : Int)) ∧ ∀ q k, ¬ (q = Q ∧ k < m) → M' q k = M q k := by
  intro m
  induction m with
  | zero =>
    intro n r M hn hm hr
    cases n with
    | zero => omega
    | succ n =>
      refine ⟨M, ?_, fun i hi => by omega, fun _ _ _ => rfl⟩
      rw [dn_X4_spread_L13, dn_X4_spread_L13B, e_Ltt ⟨by omega, by omega⟩ (by omega)]
  | succ m ih =>
    intro n r M hn hm hr
    cases n with
    | zero => omega
    | succ n =>
      have hrt : r ≤ t := by rw [hr]; exact Nat.div_le_self _ _
      have hdg : dg t m = r % 32 := by
        unfold dg bd
        rw [show nl t - 1 - m = nl t - (m + 1) by omega, ← hr]
      have hr' : r / 32 = t / 32 ^ (nl t - m) := by
        rw [hr, Nat.div_div_eq_div_mul, show nl t - m = nl t - (m + 1) + 1 by omega, Nat.pow_succ]
      obtain ⟨M', e1, e2, e3⟩ := ih n (r / 32) (fup M Q m ((r : Int) % 32)) (by omega) (by omega) hr'
      refine ⟨M', ?_, fun i hi => ?_, fun q k hq => ?_⟩
      · rw [← e1, dn_X4_spread_L13, dn_X4_spread_L13B, show ((m + 1 : Nat) : Int) - 1 = (m : Int) by omega, e_Ltf ⟨by omega, by omega⟩ (by omega), e_RmL ⟨⟨by omega, by omega⟩, by omega⟩, e_Wr m rfl (by omega), e_DvL ⟨⟨by omega, by omega⟩, by omega⟩, show (r : Int) / 32 = ((r / 32 : Nat) : Int) by omega, show (m : Int) + -1 = (m : Int) - 1 by omega]
      · by_cases him : i = m
        · subst him
          rw [e3 Q i (by omega), fup_self, hdg]
          omega
        · exact e2 i (by omega)
      · rw [e3 q k (by omega), fup_ne (by omega)]
theorem ev_spread {t : Nat} (Q : Nat) (hl : nl t ≤ 12) (ht : t < 9223372036854775808) (M : fMem) : ∃ M', dn_X4_spread (t : Int) Q M = some ((nl t : Int), M') ∧ (∀ i, i < nl t → M' Q i = (dg t i : Int)) ∧ ∀ q k, q ≠ Q → M' q k = M q k := by
  obtain ⟨M', e1, e2, e3⟩ := ev_spread_L Q hl ht (nl t : Int) (nl t) 600 t M (by omega) (by omega) (by rw [Nat.sub_self, Nat.pow_zero, Nat.div_one])
  refine ⟨M', ?_, e2, fun q k hq => e3 q k (by omega)⟩
  rw [dn_X4_spread, e_Cl (ev_lineCount ht hl M), e1]
theorem ev_compare {a b : Nat} (P : Nat) (ha : nl a ≤ 12 ∧ a < 9223372036854775808) (hb : nl b ≤ 12 ∧ b < 9223372036854775808) (M : fMem) : ∃ M', dn_X1_compare P (a : Int) (b : Int) M = some (0, M') ∧ dIn P a b M' ∧ M' P 6 = (lc a b 0 0 : Int) ∧ (∀ k, k < 12 → M' (P + 17) k = par a b k) ∧ ∀ q k, ¬ (P ≤ q ∧ q < P + 18) → M' q k = M q k := by
  obtain ⟨M1, e1, e2, e3⟩ := ev_spread (P + 1) ha.1 ha.2 M
  obtain ⟨M2, f1, f2, f3⟩ := ev_spread (P + 2) hb.1 hb.2 (fup M1 P 2 (nl a : Int))
  have hI : dIn P a b (fup M2 P 3 (nl b : Int)) := by
    refine ⟨?_, fup_self _ _ _ _, fun i hi => ?_, fun j hj => ?_⟩
    · rw [fup_ne (by omega), f3 _ _ (by omega), fup_self]
    · rw [fup_ne (by omega), f3 _ _ (by omega), fup_ne (by omega)]
      exact e2 i hi
    · rw [fup_ne (by omega)]
      exact f2 j hj
  obtain ⟨M3, g1, g2, g3⟩ := ev_measure ha.1 hb.1 hI
  have hI3 := hI.fr g3
  obtain ⟨M4, k1, k2, k3, k4⟩ := ev_pairLines ha.1 hb.1 hI3 g2
  refine ⟨M4, ?_, ?_, k3, k2, fun q k hq => ?_⟩
  · rw [dn_X1_compare, e_Cl e1]
    simp only [fPt]
    rw [e_Cl f1, e_Cl g1, e_Cl k1]
  · obtain ⟨h1, h2, h3, h4⟩ := hI3
    exact ⟨by rw [k4 _ _ (by omega)]; exact h1, by rw [k4 _ _ (by omega)]; exact h2, fun i hi => by rw [k4 _ _ (by omega)]; exact h3 i hi, fun j hj => by rw [k4 _ _ (by omega)]; exact h4 j hj⟩
  · rw [k4 _ _ (by omega), g3 _ _ (by omega), fup_ne (by omega), f3 _ _ (by omega), fup_ne (by omega), e3 _ _ (by omega)]
end PD
