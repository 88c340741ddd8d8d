/-! the reference: its table, its pairing -/
section PD6
variable {a b : Nat}
def mFr (M M' : fMem) : Prop := ∀ q k, q ≠ 132 → M' q k = M q k
theorem mFr.trans {M M1 M2 : fMem} (h : mFr M M1) (h' : mFr M1 M2) : mFr M M2 := fun q k hq => (h' q k hq).trans (h q k hq)
theorem ev_zero (a1 a3 : Int) (x : Int → fMem → fOp) : ∀ (m n k : Nat) (M : fMem), k + m = 169 → m < n → (∀ j, j < k → M 132 j = 0) → ∃ M', dn_X6_fill_L3 a1 a3 x n (k : Int) M = x 169 M' ∧ (∀ j, j < 169 → M' 132 j = 0) ∧ mFr M M' := by
  intro m
  induction m with
  | zero =>
    intro n k M hk hn hz
    cases n with
    | zero => omega
    | succ n =>
      refine ⟨M, ?_, fun j hj => hz j (by omega), fun _ _ _ => rfl⟩
      rw [dn_X6_fill_L3, dn_X6_fill_L3B, e_Let ⟨by omega, by omega⟩ (by omega), show (k : Int) = 169 by omega]
  | succ m ih =>
    intro n k M hk hn hz
    cases n with
    | zero => omega
    | succ n =>
      obtain ⟨M', e1, e2, e3⟩ := ih n (k + 1) (fup M 132 k 0) (by omega) (by omega) (fun j hj => by
        by_cases hjk : j = k
        · subst hjk; rw [fup_self]
        · rw [fup_ne (by omega)]; exact hz j (by omega))
      refine ⟨M', ?_, e2, fun q k' hq => by rw [e3 q k' hq, fup_ne (by omega)]⟩
      rw [← e1, dn_X6_fill_L3, dn_X6_fill_L3B, e_Lef ⟨by omega, by omega⟩ (by omega), e_Wr k rfl (by omega), show ((k + 1 : Nat) : Int) = (k : Int) + 1 by omega]
def mCm (a b : Nat) (M : fMem) (i j : Nat) : Prop := ∀ i' j', i' ≤ nl a → j' ≤ nl b → (i < i' ∨ (i' = i ∧ j ≤ j')) → M 132 (13 * i' + j') = (lc a b i' j' : Int)
theorem ev_fill_in (ha : nl a ≤ 12 ∧ a < 4611686018427387904) (hb : nl b ≤ 12 ∧ b < 4611686018427387904) {i : Nat} (hi : i < nl a) (x : Int → fMem → fOp) : ∀ (jj n : Nat) (M : fMem), jj < n → jj ≤ nl b → mCm a b M i jj → (∀ k, k < 13 * i → M 132 k = 0) → ∃ M', dn_X6_fill_L46 (a : Int) (b : Int) (i : Int) x n ((jj : Int) - 1) M = x (-1) M' ∧ mCm a b M' i 0 ∧ (∀ k, k < 13 * i → M' 132 k = 0) ∧ mFr M M' := by
  intro jj
  induction jj with
  | zero =>
    intro n M hn hj hC hZ
    cases n with
    | zero => omega
    | succ n =>
      refine ⟨M, ?_, hC, hZ, fun _ _ _ => rfl⟩
      rw [dn_X6_fill_L46, dn_X6_fill_L46B, e_Ltt ⟨by omega, by omega⟩ (by omega)]
      rfl
  | succ j ih =>
    intro n M hn hj hC hZ
    cases n with
    | zero => omega
    | succ n =>
      have hj' : j < nl b := by omega
      obtain ⟨M', e1, e2, e3, e4⟩ := ih n (fup M 132 (13 * i + j) (lc a b i j : Int)) (by omega) (by omega) (fun i' j' h1 h2 h3 => by
        by_cases h4 : i' = i ∧ j' = j
        · obtain ⟨rfl, rfl⟩ := h4
          rw [fup_self]
        · rw [fup_ne (by omega)]
          exact hC i' j' h1 h2 (by omega)) (fun k hk => by rw [fup_ne (by omega)]; exact hZ k hk)
      refine ⟨M', ?_, e2, e3, fun q k hq => by rw [e4 q k hq, fup_ne (by omega)]⟩
      rw [← e1]
      have d1 := dg_32 a i
      have d2 := dg_32 b j
      have l1 := lc_12 (b := b) ha.1 (i + 1) (j + 1)
      have l2 := lc_12 (b := b) ha.1 (i + 1) j
      have l3 := lc_12 (b := b) ha.1 i (j + 1)
      rw [dn_X6_fill_L46, dn_X6_fill_L46B, show ((j + 1 : Nat) : Int) - 1 = (j : Int) by omega, e_Ltf ⟨by omega, by omega⟩ (by omega), e_Rd (13 * (i + 1) + j) (by omega) (by omega), e_Rd (13 * i + (j + 1)) (by omega) (by omega), e_Rd (13 * (i + 1) + (j + 1)) (by omega) (by omega), e_Cl (ev_lineOf ha.2 hi M), e_Cl (ev_lineOf hb.2 hj' M), hC (i + 1) j (by omega) (by omega) (by omega), hC i (j + 1) (by omega) (by omega) (by omega), hC (i + 1) (j + 1) (by omega) (by omega) (by omega), e_Eq ⟨by omega, by omega⟩, e_Le ⟨by omega, by omega⟩]
      simp only [dn_X6_fill_J154]
      rw [e_Wr (13 * i + j) (by omega) (by omega), e_Wr (13 * i + j) (by omega) (by omega), e_Wr (13 * i + j) (by omega) (by omega), show ((j : Int) + -1) = (j : Int) - 1 by omega, lc_s hi hj']
      by_cases hd : dg a i = dg b j
      · rw [if_pos (by omega), if_pos hd]
        congr 2
      · rw [if_neg (by omega), if_neg hd]
        by_cases hl : lc a b (i + 1) j < lc a b i (j + 1)
        · rw [if_pos (by omega), if_pos hl]
        · rw [if_neg hl]
          by_cases hl2 : (lc a b (i + 1) j : Int) ≤ (lc a b i (j + 1) : Int)
          · rw [if_pos hl2]
            congr 2
            omega
          · rw [if_neg hl2]
theorem ev_fill_out (ha : nl a ≤ 12 ∧ a < 4611686018427387904) (hb : nl b ≤ 12 ∧ b < 4611686018427387904) : ∀ (ii n : Nat) (M : fMem), ii < n → ii ≤ nl a → (∀ i' j', ii ≤ i' → i' ≤ nl a → j' ≤ nl b → M 132 (13 * i' + j') = (lc a b i' j' : Int)) → (∀ k, k < 13 * ii → M 132 k = 0) → ∃ M', dn_X6_fill_L33 (a : Int) (b : Int) n ((ii : Int) - 1) M = some (0, M') ∧ (∀ i' j', i' ≤ nl a → j' ≤ nl b → M' 132 (13 * i' + j') = (lc a b i' j' : Int)) ∧ mFr M M' := by
  intro ii
  induction ii with
  | zero =>
    intro n M hn hi hC hZ
    cases n with
    | zero => omega
    | succ n =>
      refine ⟨M, ?_, fun i' j' h1 h2 => hC i' j' (by omega) h1 h2, fun _ _ _ => rfl⟩
      rw [dn_X6_fill_L33, dn_X6_fill_L33B, e_Ltt ⟨by omega, by omega⟩ (by omega)]
  | succ i ih =>
    intro n M hn hi hC hZ
    cases n with
    | zero => omega
    | succ n =>
      obtain ⟨M1, e1, e2, e3, e4⟩ := ev_fill_in ha hb (i := i) (by omega) (fun y16 M17 => dn_X6_fill_L33 (a : Int) (b : Int) n ((i : Int) + (-1)) M17) (nl b) 600 M (by omega) (by omega) (fun i' j' h1 h2 h3 => by
        rcases h3 with h3 | ⟨h3, h4⟩
        · exact hC i' j' (by omega) h1 h2
        · have hj0 : j' = nl b := by omega
          subst h3
          rw [hZ _ (by omega), lc_j (by omega)]
          rfl) (fun k hk => hZ k (by omega))
      obtain ⟨M2, f1, f2, f3⟩ := ih n M1 (by omega) (by omega) (fun i' j' h1 h2 h3 => e2 i' j' h2 h3 (by omega)) e3
      refine ⟨M2, ?_, f2, e4.trans f3⟩
      rw [← f1, dn_X6_fill_L33, dn_X6_fill_L33B, show ((i + 1 : Nat) : Int) - 1 = (i : Int) by omega, e_Ltf ⟨by omega, by omega⟩ (by omega), e_Cl (ev_size (by omega) M), e1, show ((i : Int) + -1) = (i : Int) - 1 by omega]
theorem ev_fill6 (ha : nl a ≤ 12 ∧ a < 4611686018427387904) (hb : nl b ≤ 12 ∧ b < 4611686018427387904) (M : fMem) : ∃ M', dn_X6_fill (a : Int) (b : Int) M = some (0, M') ∧ (∀ i' j', i' ≤ nl a → j' ≤ nl b → M' 132 (13 * i' + j') = (lc a b i' j' : Int)) ∧ mFr M M' := by
  obtain ⟨M1, e1, e2, e3⟩ := ev_zero (a : Int) (b : Int) (fun y2 M3 => fCl (dn_X6_size (a : Int) M3) (fun v4 M5 => dn_X6_fill_L33 (a : Int) (b : Int) 600 (v4 - 1) M5)) 169 600 0 M (by omega) (by omega) (fun j hj => by omega)
  obtain ⟨M2, f1, f2, f3⟩ := ev_fill_out ha hb (nl a) 600 M1 (by omega) (by omega) (fun i' j' h1 h2 h3 => by rw [e2 _ (by omega), lc_i (by omega)]; rfl) (fun k hk => e2 k (by omega))
  refine ⟨M2, ?_, f2, e3.trans f3⟩
  rw [dn_X6_fill]
  rw [show ((0 : Nat) : Int) = 0 from rfl] at e1
  rw [e1, e_Cl (ev_size (by omega) M1), f1]
theorem ev_difference6 (ha : nl a ≤ 12 ∧ a < 4611686018427387904) (hb : nl b ≤ 12 ∧ b < 4611686018427387904) (M : fMem) : ∃ M', dn_X6_difference (a : Int) (b : Int) M = some ((nl a : Int) + (nl b : Int) - 2 * (lc a b 0 0 : Int), M') ∧ mFr M M' := by
  obtain ⟨M', e1, e2, e3⟩ := ev_fill6 ha hb M
  refine ⟨M', ?_, e3⟩
  rw [dn_X6_difference, e_Cl e1, e_Cl (ev_size (by omega) M'), e_Cl (ev_size (by omega) M'), e_Rd (i := 0) 0 rfl (by omega)]
  have := e2 0 0 (by omega) (by omega)
  rw [Nat.mul_zero] at this
  rw [this]
/-- the row that a pairing goes to -/
def wRow (first : Int) : Nat := if first = 0 then 134 else 133
theorem wRow_01 {first : Int} (h : first = 0 ∨ first = 1) : (first = 0 ∧ wRow first = 134) ∨ (first = 1 ∧ wRow first = 133) := by
  rcases h with rfl | rfl
  · exact Or.inl ⟨rfl, rfl⟩
  · exact Or.inr ⟨rfl, rfl⟩
theorem wPut {first : Int} (h : first = 0 ∨ first = 1) {M : fMem} {i v : Int} {k : fMem → fOp} (j : Nat) (hi : i = (j : Int)) (hj : j < 13) : fEq first 0 (fWr M 134 13 i v k) (fWr M 133 13 i v k) = k (fup M (wRow first) j v) := by
  rcases wRow_01 h with ⟨rfl, e⟩ | ⟨rfl, e⟩
  · rw [e_Eqt ⟨by omega, by omega⟩ rfl, e_Wr j hi hj, e]
  · rw [e_Eqf ⟨by omega, by omega⟩ (by omega), e_Wr j hi hj, e]
theorem wRow_ne {first : Int} (h : first = 0 ∨ first = 1) : wRow first = 133 ∨ wRow first = 134 := by
  rcases wRow_01 h with ⟨_, e⟩ | ⟨_, e⟩ <;> omega
theorem ev_none6 (a1 a3 : Int) {first : Int} (hf : first = 0 ∨ first = 1) (x : Int → fMem → fOp) : ∀ (m n k : Nat) (M : fMem), k + m = 13 → m < n → (∀ j, j < k → M (wRow first) j = -1) → ∃ M', dn_X6_pairUp_L9 a1 a3 first x n (k : Int) M = x 13 M' ∧ (∀ j, j < 13 → M' (wRow first) j = -1) ∧ ∀ q k, q ≠ wRow first → M' q k = M q k := by
  intro m
  induction m with
  | zero =>
    intro n k M hk hn hz
    cases n with
    | zero => omega
    | succ n =>
      refine ⟨M, ?_, fun j hj => hz j (by omega), fun _ _ _ => rfl⟩
      rw [dn_X6_pairUp_L9, dn_X6_pairUp_L9B, e_Let ⟨by omega, by omega⟩ (by omega), show (k : Int) = 13 by omega]
  | succ m ih =>
    intro n k M hk hn hz
    cases n with
    | zero => omega
    | succ n =>
      obtain ⟨M', e1, e2, e3⟩ := ih n (k + 1) (fup M (wRow first) k (-1)) (by omega) (by omega) (fun j hj => by
        by_cases hjk : j = k
        · subst hjk; rw [fup_self]
        · rw [fup_ne (by omega)]; exact hz j (by omega))
      refine ⟨M', ?_, e2, fun q k' hq => by rw [e3 q k' hq, fup_ne (by omega)]⟩
      rw [← e1, dn_X6_pairUp_L9, dn_X6_pairUp_L9B, e_Lef ⟨by omega, by omega⟩ (by omega), wPut hf k rfl (by omega), dn_X6_pairUp_J40, show ((k + 1 : Nat) : Int) = (k : Int) + 1 by omega]
theorem ev_pair6_L (ha : nl a ≤ 12 ∧ a < 4611686018427387904) (hb : nl b ≤ 12 ∧ b < 4611686018427387904) {first : Int} (hf : first = 0 ∨ first = 1) : ∀ (s n i j : Nat) (M : fMem) (F : Nat → Int), (nl a - i) + (nl b - j) ≤ s → s < n → i ≤ nl a → j ≤ nl b → (∀ i' j', i' ≤ nl a → j' ≤ nl b → M 132 (13 * i' + j') = (lc a b i' j' : Int)) → (∀ k, k < 13 → M (wRow first) k = F k) →
    ∃ M', dn_X6_pairUp_L52 (a : Int) (b : Int) first n (i : Int) (j : Int) M = some (0, M') ∧ (∀ k, k < 13 → M' (wRow first) k = pwk a b s i j F k) ∧ ∀ q k, q ≠ wRow first → M' q k = M q k := by
  have hw := wRow_ne hf
  intro s
  induction s with
  | zero =>
    intro n i j M F hs hn hi hj hC hF
    cases n with
    | zero => omega
    | succ n =>
      refine ⟨M, ?_, hF, fun _ _ _ => rfl⟩
      rw [dn_X6_pairUp_L52, dn_X6_pairUp_L52B, e_Cl (ev_size (by omega) M), e_Let ⟨by omega, by omega⟩ (by omega)]
  | succ s ih =>
    intro n i j M F hs hn hi hj hC hF
    cases n with
    | zero => omega
    | succ n =>
      rw [dn_X6_pairUp_L52, dn_X6_pairUp_L52B, e_Cl (ev_size (by omega) M)]
      by_cases hia : i < nl a
      · rw [e_Lef ⟨by omega, by omega⟩ (by omega), e_Cl (ev_size (by omega) M)]
        by_cases hjb : j < nl b
        · have d1 := dg_32 a i
          have d2 := dg_32 b j
          have l2 := lc_12 (b := b) ha.1 (i + 1) j
          have l3 := lc_12 (b := b) ha.1 i (j + 1)
          have hp : pwk a b (s + 1) i j F = if dg a i = dg b j then pwk a b s (i + 1) (j + 1) (pup F i (j : Int)) else (if lc a b (i + 1) j < lc a b i (j + 1) then pwk a b s i (j + 1) F else pwk a b s (i + 1) j F) := by
            show (if i < nl a then (if j < nl b then _ else F) else F) = _
            rw [if_pos hia, if_pos hjb]
          rw [e_Lef ⟨by omega, by omega⟩ (by omega), e_Cl (ev_lineOf ha.2 hia M), e_Cl (ev_lineOf hb.2 hjb M), e_Eq ⟨by omega, by omega⟩, hp]
          by_cases hd : dg a i = dg b j
          · rw [if_pos (by omega), if_pos hd, wPut hf i rfl (by omega), dn_X6_pairUp_J111, show ((i : Int) + 1) = ((i + 1 : Nat) : Int) by omega, show ((j : Int) + 1) = ((j + 1 : Nat) : Int) by omega]
            obtain ⟨M', e1, e2, e3⟩ := ih n (i + 1) (j + 1) (fup M (wRow first) i (j : Int)) (pup F i (j : Int)) (by omega) (by omega) (by omega) (by omega)
              (fun i' j' q1 q2 => by rw [fup_ne (by omega)]; exact hC i' j' q1 q2)
              (fun k hk => by
                unfold pup
                by_cases hki : k = i
                · subst hki; rw [if_pos rfl, fup_self]
                · rw [if_neg hki, fup_ne (by omega)]; exact hF k hk)
            exact ⟨M', e1, e2, fun q k hq => by rw [e3 q k hq, fup_ne (by omega)]⟩
          · rw [if_neg (by omega), if_neg hd, e_Rd (13 * (i + 1) + j) (by omega) (by omega), e_Rd (13 * i + (j + 1)) (by omega) (by omega), hC (i + 1) j (by omega) (by omega), hC i (j + 1) (by omega) (by omega), e_Lt ⟨by omega, by omega⟩]
            by_cases hl : lc a b (i + 1) j < lc a b i (j + 1)
            · rw [if_pos (by omega), if_pos hl, show ((j : Int) + 1) = ((j + 1 : Nat) : Int) by omega]
              exact ih n i (j + 1) M F (by omega) (by omega) hi (by omega) hC hF
            · rw [if_neg (by omega), if_neg hl, show ((i : Int) + 1) = ((i + 1 : Nat) : Int) by omega]
              exact ih n (i + 1) j M F (by omega) (by omega) (by omega) hj hC hF
        · refine ⟨M, by rw [e_Let ⟨by omega, by omega⟩ (by omega)], fun k hk => ?_, fun _ _ _ => rfl⟩
          show _ = (if i < nl a then (if j < nl b then _ else F) else F) k
          rw [if_pos hia, if_neg hjb]
          exact hF k hk
      · refine ⟨M, by rw [e_Let ⟨by omega, by omega⟩ (by omega)], fun k hk => ?_, fun _ _ _ => rfl⟩
        show _ = (if i < nl a then _ else F) k
        rw [if_neg hia]
        exact hF k hk
theorem ev_pairUp6 (ha : nl a ≤ 12 ∧ a < 4611686018427387904) (hb : nl b ≤ 12 ∧ b < 4611686018427387904) {first : Int} (hf : first = 0 ∨ first = 1) (M : fMem) : ∃ M', dn_X6_pairUp (a : Int) (b : Int) first M = some (0, M') ∧ (∀ k, k < 13 → M' (wRow first) k = par a b k) ∧ ∀ q k, ¬ (q = 132 ∨ q = wRow first) → M' q k = M q k := by
  have hw := wRow_ne hf
  obtain ⟨M1, e1, e2, e3⟩ := ev_fill6 ha hb M
  obtain ⟨M2, f1, f2, f3⟩ := ev_none6 (a : Int) (b : Int) hf (fun y5 M6 => dn_X6_pairUp_L52 (a : Int) (b : Int) first 600 0 0 M6) 13 600 0 M1 (by omega) (by omega) (fun j hj => by omega)
  obtain ⟨M3, g1, g2, g3⟩ := ev_pair6_L ha hb hf (nl a + nl b) 600 0 0 M2 (fun _ => -1) (by omega) (by omega) (by omega) (by omega) (fun i' j' h1 h2 => by rw [f3 _ _ (by omega)]; exact e2 i' j' h1 h2) f2
  refine ⟨M3, ?_, g2, fun q k hq => by rw [g3 q k (by omega), f3 q k (by omega), e3 q k (by omega)]⟩
  rw [show ((0 : Nat) : Int) = 0 from rfl] at f1 g1
  rw [dn_X6_pairUp, e_Cl e1, f1, g1]
end PD6
