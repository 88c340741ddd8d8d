/-! the reference's merging -/
section PM6
variable {o a b : Nat}
def mO (u : List Nat × Bool) (M : fMem) : Prop := M 115 20 = (u.1.length : Int) ∧ (∀ k, k < 64 → k < u.1.length → M 135 k = (u.1.getD k 0 : Int)) ∧ M 115 21 = b2 (u.2 = true)
def fM6 (M M' : fMem) : Prop := ∀ q k, q ≠ 115 → q ≠ 135 → M' q k = M q k
theorem fM6.trans {M M1 M2 : fMem} (h : fM6 M M1) (h' : fM6 M1 M2) : fM6 M M2 := fun q k hq hr => (h' q k hq hr).trans (h q k hq hr)
theorem fM6.rf (M : fMem) : fM6 M M := fun _ _ _ _ => rfl
theorem getD_snoc_lt {l : List Nat} {x k : Nat} (h : k < l.length) : (l ++ [x]).getD k 0 = l.getD k 0 := by
  simp [List.getD_eq_getElem?_getD, List.getElem?_append_left h]
theorem getD_snoc_eq {l : List Nat} {x : Nat} : (l ++ [x]).getD l.length 0 = x := by
  simp [List.getD_eq_getElem?_getD]
theorem ev_put {u : List Nat × Bool} {M : fMem} (x : Nat) (hl : u.1.length < 100000) (h : mO u M) : ∃ M', dn_X6_put (x : Int) M = some (0, M') ∧ mO (u.1 ++ [x], u.2) M' ∧ fM6 M M' := by
  obtain ⟨h1, h2, h3⟩ := h
  rw [dn_X6_put]
  simp only [fGt, fPt, dn_X6_put_J19, h1]
  by_cases h64 : (64 : Int) ≤ (u.1.length : Int)
  · rw [e_Let ⟨by omega, by omega⟩ h64]
    refine ⟨_, rfl, ⟨?_, fun k hk hk2 => ?_, ?_⟩, fun q k hq hr => fup_ne (by omega)⟩
    · rw [fup_self]; simp
    · rw [fup_ne (by omega)]
      show _ = ((u.1 ++ [x]).getD k 0 : Int)
      rw [getD_snoc_lt (by omega)]
      exact h2 k hk (by omega)
    · rw [fup_ne (by omega)]; exact h3
  · rw [e_Lef ⟨by omega, by omega⟩ h64, e_Wr u.1.length rfl (by omega)]
    rw [fup_ne (show ¬ (115 = 135 ∧ 20 = u.1.length) by omega), h1]
    refine ⟨_, rfl, ⟨?_, fun k hk hk2 => ?_, ?_⟩, fun q k hq hr => by rw [fup_ne (by omega), fup_ne (by omega)]⟩
    · rw [fup_self]; simp
    · rw [fup_ne (by omega)]
      show _ = ((u.1 ++ [x]).getD k 0 : Int)
      by_cases hke : k = u.1.length
      · subst hke
        rw [fup_self, getD_snoc_eq]
      · have hk3 : k < u.1.length := by
          have : k < (u.1 ++ [x]).length := hk2
          simp at this
          omega
        rw [fup_ne (by omega), getD_snoc_lt hk3]
        exact h2 k hk hk3
    · rw [fup_ne (by omega), fup_ne (by omega)]; exact h3
theorem ev_putAll_L {t : Nat} (ht : nl t ≤ 12 ∧ t < 4611686018427387904) (a3 : Int) (e : Nat) (he : e ≤ nl t) : ∀ (m n s : Nat) (u : List Nat × Bool) (M : fMem), e - s ≤ m → m < n → u.1.length + m < 90000 → s < 1000 → mO u M → ∃ M', dn_X6_putAll_L3 (t : Int) a3 (e : Int) n (s : Int) M = some (0, M') ∧ mO (u.1 ++ seg t s e, u.2) M' ∧ fM6 M M' := by
  intro m
  induction m with
  | zero =>
    intro n s u M hm hn hl hs hO
    cases n with
    | zero => omega
    | succ n =>
      refine ⟨M, ?_, ?_, fM6.rf M⟩
      · rw [dn_X6_putAll_L3, dn_X6_putAll_L3B, e_Let ⟨by omega, by omega⟩ (by omega)]
      · rw [seg_nil (by omega), List.append_nil]; exact hO
  | succ m ih =>
    intro n s u M hm hn hl hs hO
    cases n with
    | zero => omega
    | succ n =>
      rw [dn_X6_putAll_L3, dn_X6_putAll_L3B]
      by_cases hse : s < e
      · obtain ⟨M1, e1, e2, e3⟩ := ev_put (dg t s) (by omega) hO
        obtain ⟨M2, f1, f2, f3⟩ := ih n (s + 1) (u.1 ++ [dg t s], u.2) M1 (by omega) (by omega) (by simp; omega) (by omega) e2
        refine ⟨M2, ?_, ?_, e3.trans f3⟩
        · rw [e_Lef ⟨by omega, by omega⟩ (by omega), e_Cl (ev_lineOf ht.2 (by omega) M), e_Cl e1, show ((s : Int) + 1) = ((s + 1 : Nat) : Int) by omega, f1]
        · rw [seg_cons hse]
          have : (u.1 ++ [dg t s]) ++ seg t (s + 1) e = u.1 ++ dg t s :: seg t (s + 1) e := by simp
          rw [← this]
          exact f2
      · refine ⟨M, ?_, ?_, fM6.rf M⟩
        · rw [e_Let ⟨by omega, by omega⟩ (by omega)]
        · rw [seg_nil (by omega), List.append_nil]; exact hO
theorem ev_putAll {t : Nat} (ht : nl t ≤ 12 ∧ t < 4611686018427387904) (s e : Nat) (he : e ≤ nl t) (u : List Nat × Bool) (M : fMem) (hl : u.1.length < 80000) (hs : s < 1000) (hO : mO u M) : ∃ M', dn_X6_putAll (t : Int) (s : Int) (e : Int) M = some (0, M') ∧ mO (u.1 ++ seg t s e, u.2) M' ∧ fM6 M M' := by
  rw [dn_X6_putAll]
  exact ev_putAll_L ht (s : Int) e he 12 600 s u M (by omega) (by omega) (by omega) hs hO
theorem ev_alike_0 (a0 a2 a3 a4 a6 a7 : Int) (n : Nat) (x : Int) (M : fMem) (h : InI (a3 - a2)) (hx : InI x) : dn_X6_alike_L21 a0 a2 a3 a4 a6 a7 (n + 1) 0 x M = some (0, M) := by
  rw [dn_X6_alike_L21, dn_X6_alike_L21B, e_Le ⟨h, hx⟩, e_Eqt ⟨by omega, by omega⟩ rfl, fRz_0]
  split <;> rfl
theorem ev_alike_L {t1 t2 : Nat} (s1 e1 s2 e2 : Nat) (h1 : e1 ≤ nl t1 ∧ nl t1 ≤ 12 ∧ t1 < 4611686018427387904) (h2 : e2 ≤ nl t2 ∧ nl t2 ≤ 12 ∧ t2 < 4611686018427387904) (hs : s1 < 1000 ∧ s2 < 1000) (hq : (e1 : Int) - (s1 : Int) = (e2 : Int) - (s2 : Int)) (M : fMem) : ∀ (m n x : Nat), x + m = e1 - s1 → m + 1 < n → sameF t1 s1 t2 s2 x = true → dn_X6_alike_L21 (t1 : Int) (s1 : Int) (e1 : Int) (t2 : Int) (s2 : Int) (e2 : Int) n 1 (x : Int) M = some (b2 (sameF t1 s1 t2 s2 (e1 - s1) = true), M) := by
  intro m
  induction m with
  | zero =>
    intro n x hx hn hF
    cases n with
    | zero => omega
    | succ n =>
      rw [dn_X6_alike_L21, dn_X6_alike_L21B, e_Let ⟨by omega, by omega⟩ (by omega), fRz_1, b2_t]
      rw [show e1 - s1 = x by omega]
      exact hF
  | succ m ih =>
    intro n x hx hn hF
    cases n with
    | zero => omega
    | succ n =>
      have d1 := dg_32 t1 (s1 + x)
      have d2 := dg_32 t2 (s2 + x)
      rw [dn_X6_alike_L21, dn_X6_alike_L21B, e_Lef ⟨by omega, by omega⟩ (by omega), e_Eqf ⟨by omega, by omega⟩ (by omega), show ((s1 : Int) + (x : Int)) = ((s1 + x : Nat) : Int) by omega, show ((s2 : Int) + (x : Int)) = ((s2 + x : Nat) : Int) by omega, e_Cl (ev_lineOf h1.2.2 (by omega) M), e_Cl (ev_lineOf h2.2.2 (by omega) M), e_Eq ⟨by omega, by omega⟩]
      simp only [dn_X6_alike_J60]
      by_cases hd : dg t1 (s1 + x) = dg t2 (s2 + x)
      · rw [if_pos (by omega), show ((x : Int) + 1) = ((x + 1 : Nat) : Int) by omega]
        exact ih n (x + 1) (by omega) (by omega) (by simp [sameF, hF, hd])
      · rw [if_neg (by omega)]
        obtain ⟨n', rfl⟩ : ∃ n', n = n' + 1 := ⟨n - 1, by omega⟩
        rw [ev_alike_0 _ _ _ _ _ _ _ _ _ (by omega) (by omega), b2_f]
        intro q
        exact hd ((sameF_iff _ _ _ _ _).mp q x (by omega))
theorem ev_alike {t1 t2 : Nat} (s1 e1 s2 e2 : Nat) (h1 : e1 ≤ nl t1 ∧ nl t1 ≤ 12 ∧ t1 < 4611686018427387904) (h2 : e2 ≤ nl t2 ∧ nl t2 ≤ 12 ∧ t2 < 4611686018427387904) (hs : s1 < 1000 ∧ s2 < 1000) (M : fMem) : dn_X6_alike (t1 : Int) (s1 : Int) (e1 : Int) (t2 : Int) (s2 : Int) (e2 : Int) M = some (b2 (same t1 s1 e1 t2 s2 e2 = true), M) := by
  rw [dn_X6_alike, e_Eq ⟨by omega, by omega⟩]
  simp only [dn_X6_alike_J16]
  by_cases hq : (e1 : Int) - (s1 : Int) = (e2 : Int) - (s2 : Int)
  · rw [if_pos hq]
    have := ev_alike_L s1 e1 s2 e2 h1 h2 hs hq M (e1 - s1) 600 0 (by omega) (by omega) rfl
    rw [show ((0 : Nat) : Int) = 0 from rfl] at this
    rw [this]
    congr 2
    apply b2_congr
    simp [same, hq]
  · rw [if_neg hq, ev_alike_0 _ _ _ _ _ _ 599 _ _ (by omega) (by omega), b2_f]
    simp [same, hq]
/-- behind a part: the stable line, if there is one -/
def mafter (st : Bool) (o x : Nat) (u : List Nat × Bool) : List Nat × Bool := if st = true then (u.1 ++ [dg o x], u.2) else u
theorem ev_J256 (ho : nl o ≤ 12 ∧ o < 4611686018427387904) (r : Int → Int → Int → Int → fMem → fOp) (a3 a5 a7 a8 a9 : Int) (st : Bool) (x ea eb : Nat) (hx : st = true → x < nl o) (u : List Nat × Bool) (M : fMem) (hl : u.1.length < 80000) (hO : mO u M) : ∃ M', dn_X6_merge_J256 r (o : Int) a3 a5 a7 a8 a9 (x : Int) (b2 (st = true)) (ea : Int) (eb : Int) M = r ((x + 1 : Nat) : Int) ((ea + 1 : Nat) : Int) ((eb + 1 : Nat) : Int) ((x + 1 : Nat) : Int) M' ∧ mO (mafter st o x u) M' ∧ fM6 M M' := by
  rw [dn_X6_merge_J256, fEq_b2]
  simp only [dn_X6_merge_J271, dn_X6_merge_J289]
  rw [show ((x : Int) + 1) = ((x + 1 : Nat) : Int) by omega, show ((ea : Int) + 1) = ((ea + 1 : Nat) : Int) by omega, show ((eb : Int) + 1) = ((eb + 1 : Nat) : Int) by omega]
  cases st with
  | true =>
    rw [if_pos rfl]
    obtain ⟨M1, e1, e2, e3⟩ := ev_put (dg o x) (by omega) hO
    exact ⟨M1, by rw [e_Cl (ev_lineOf ho.2 (hx rfl) M), e_Cl e1], e2, e3⟩
  | false =>
    rw [if_neg (by decide)]
    exact ⟨M, rfl, hO, fM6.rf M⟩
theorem ev_J137 (ho : nl o ≤ 12 ∧ o < 4611686018427387904) (ha : nl a ≤ 12 ∧ a < 4611686018427387904) (hb : nl b ≤ 12 ∧ b < 4611686018427387904) (r : Int → Int → Int → Int → fMem → fOp) (st : Bool) (i x j ea k eb : Nat) (hx : st = true → x < nl o) (hxo : x ≤ nl o) (hea : ea ≤ nl a) (heb : eb ≤ nl b) (hs : i < 1000 ∧ j < 1000 ∧ k < 1000) (u : List Nat × Bool) (M : fMem) (hl : u.1.length < 70000) (hO : mO u M) : ∃ M', dn_X6_merge_J137 r (o : Int) (a : Int) (b : Int) (i : Int) (j : Int) (k : Int) (x : Int) (b2 (st = true)) (ea : Int) (eb : Int) M = r ((x + 1 : Nat) : Int) ((ea + 1 : Nat) : Int) ((eb + 1 : Nat) : Int) ((x + 1 : Nat) : Int) M' ∧ mO (mafter st o x (mpart o a b i x j ea k eb u)) M' ∧ fM6 M M' := by
  rw [dn_X6_merge_J137, e_Cl (ev_alike j ea i x ⟨hea, ha⟩ ⟨hxo, ho⟩ ⟨hs.2.1, hs.1⟩ M), fEq_b2]
  have hlen := mpart_len o a b i x j ea k eb u (by omega) (by omega)
  unfold mpart
  rw [same_comm a j ea o i x]
  by_cases c1 : same o i x a j ea = true
  · rw [if_pos c1, if_pos c1]
    obtain ⟨M1, e1, e2, e3⟩ := ev_putAll hb k eb heb u M (by omega) hs.2.2 hO
    obtain ⟨M2, f1, f2, f3⟩ := ev_J256 ho r (a : Int) (b : Int) (i : Int) (j : Int) (k : Int) st x ea eb hx _ M1 (by simp [seg_len]; omega) e2
    exact ⟨M2, by rw [e_Cl e1, f1], f2, e3.trans f3⟩
  · rw [if_neg c1, if_neg c1, e_Cl (ev_alike k eb i x ⟨heb, hb⟩ ⟨hxo, ho⟩ ⟨hs.2.2, hs.1⟩ M), fEq_b2, same_comm b k eb o i x]
    obtain ⟨M1, e1, e2, e3⟩ := ev_putAll ha j ea hea u M (by omega) hs.2.1 hO
    obtain ⟨M2, f1, f2, f3⟩ := ev_J256 ho r (a : Int) (b : Int) (i : Int) (j : Int) (k : Int) st x ea eb hx _ M1 (by simp [seg_len]; omega) e2
    by_cases c2 : same o i x b k eb = true
    · rw [if_pos c2, if_pos (by simp [c2]), dn_X6_merge_J202]
      exact ⟨M2, by rw [e_Cl e1, f1], f2, e3.trans f3⟩
    · rw [if_neg c2, e_Cl (ev_alike k eb j ea ⟨heb, hb⟩ ⟨hea, ha⟩ ⟨hs.2.2, hs.2.1⟩ M), fEq_b2, same_comm b k eb a j ea]
      by_cases c3 : same a j ea b k eb = true
      · rw [if_pos c3, if_pos (by simp [c3]), dn_X6_merge_J202]
        exact ⟨M2, by rw [e_Cl e1, f1], f2, e3.trans f3⟩
      · rw [if_neg c3, if_neg (by simp [c2, c3]), e_Pz (by omega)]
        have hO1 : mO (u.1, true) (fup M 115 21 1) := ⟨by rw [fup_ne (by omega)]; exact hO.1, fun k hk hk2 => by rw [fup_ne (by omega)]; exact hO.2.1 k hk hk2, by rw [fup_self, b2_t rfl]⟩
        have f0 : fM6 M (fup M 115 21 1) := fun q k hq hr => fup_ne (by omega)
        obtain ⟨N2, a1, a2, a3⟩ := ev_put 17 (by show u.1.length < _; omega) hO1
        obtain ⟨N3, b1, b2', b3⟩ := ev_putAll ha j ea hea _ N2 (by simp; omega) hs.2.1 a2
        obtain ⟨N4, c1', c2', c3'⟩ := ev_put 18 (by simp [seg_len]; omega) b2'
        obtain ⟨N5, d1, d2, d3⟩ := ev_putAll hb k eb heb _ N4 (by simp [seg_len]; omega) hs.2.2 c2'
        obtain ⟨N6, g1, g2, g3⟩ := ev_put 19 (by simp [seg_len]; omega) d2
        obtain ⟨N7, k1, k2, k3⟩ := ev_J256 ho r (a : Int) (b : Int) (i : Int) (j : Int) (k : Int) st x ea eb hx _ N6 (by simp [seg_len]; omega) g2
        refine ⟨N7, ?_, k2, f0.trans (a3.trans (b3.trans (c3'.trans (d3.trans (g3.trans k3)))))⟩
        rw [show (17 : Int) = ((17 : Nat) : Int) from rfl, e_Cl a1, e_Cl b1, show (18 : Int) = ((18 : Nat) : Int) from rfl, e_Cl c1', e_Cl d1, show (19 : Int) = ((19 : Nat) : Int) from rfl, e_Cl g1, k1]
def mend (o a b : Nat) (w : Nat × Nat × Nat × (List Nat × Bool)) : List Nat × Bool := mpart o a b w.1 (nl o) w.2.1 (nl a) w.2.2.1 (nl b) w.2.2.2
theorem ev_merge6_L (ho : nl o ≤ 12 ∧ o < 4611686018427387904) (ha : nl a ≤ 12 ∧ a < 4611686018427387904) (hb : nl b ≤ 12 ∧ b < 4611686018427387904) : ∀ (m n x i j k : Nat) (u : List Nat × Bool) (M : fMem), x + m = nl o → m + 1 < n → i < 100 → j < 100 → k < 100 → u.1.length ≤ 30 * x → (∀ k, k < 13 → M 133 k = par o a k) → (∀ k, k < 13 → M 134 k = par o b k) → mO u M → ∃ M', dn_X6_merge_L37 (o : Int) (a : Int) (b : Int) n (i : Int) (j : Int) (k : Int) (x : Int) M = some (0, M') ∧ mO (mend o a b (mloop o a b m x i j k u)) M' ∧ fM6 M M' := by
  intro m
  induction m with
  | zero =>
    intro n x i j k u M hx hn hi hj hk hl hA hB hO
    obtain ⟨n, rfl⟩ : ∃ n', n = n' + 2 := ⟨n - 2, by omega⟩
    obtain ⟨M1, e1, e2, e3⟩ := ev_J137 ho ha hb (fun a7 a8 a9 a10 M => dn_X6_merge_L37 (o : Int) (a : Int) (b : Int) (n + 1) a7 a8 a9 a10 M) false i x j (nl a) k (nl b) (fun q => by cases q) (by omega) (by omega) (by omega) ⟨by omega, by omega, by omega⟩ u M (by omega) hO
    rw [b2_f (by decide)] at e1
    refine ⟨M1, ?_, ?_, e3⟩
    · rw [dn_X6_merge_L37, dn_X6_merge_L37B, e_Cl (ev_size (by omega) M), e_Ltf ⟨by omega, by omega⟩ (by omega), e_Cl (ev_size (by omega) M), e_Let ⟨by omega, by omega⟩ (by omega), dn_X6_merge_J79, dn_X6_merge_J80, e_Eqt ⟨by omega, by omega⟩ rfl, e_Cl (ev_size (by omega) M), e_Eqt ⟨by omega, by omega⟩ (by omega), dn_X6_merge_J96, e_Eqt ⟨by omega, by omega⟩ rfl, e_Cl (ev_size (by omega) M), dn_X6_merge_J115, e_Eqt ⟨by omega, by omega⟩ rfl, e_Cl (ev_size (by omega) M), e1, dn_X6_merge_L37, dn_X6_merge_L37B, e_Cl (ev_size (by omega) M1), e_Ltt ⟨by omega, by omega⟩ (by omega)]
    · have : mend o a b (mloop o a b 0 x i j k u) = mpart o a b i x j (nl a) k (nl b) u := by
        show mpart o a b i (nl o) j (nl a) k (nl b) u = _
        rw [show nl o = x by omega]
      rw [this]
      exact e2
  | succ m ih =>
    intro n x i j k u M hx hn hi hj hk hl hA hB hO
    obtain ⟨n, rfl⟩ : ∃ n', n = n' + 1 := ⟨n - 1, by omega⟩
    have p1 := par_in o a x
    have p2 := par_in o b x
    have hxo : x < nl o := by omega
    rw [dn_X6_merge_L37, dn_X6_merge_L37B, e_Cl (ev_size (by omega) M), e_Ltf ⟨by omega, by omega⟩ (by omega), e_Cl (ev_size (by omega) M), e_Lef ⟨by omega, by omega⟩ (by omega), e_Rd x rfl (by omega), hA x (by omega), e_Lt ⟨by omega, by omega⟩, e_Rd x rfl (by omega), hB x (by omega), e_Lt ⟨by omega, by omega⟩]
    have h79 : dn_X6_merge_J79 (fun a7 a8 a9 a10 M => dn_X6_merge_L37 (o : Int) (a : Int) (b : Int) n a7 a8 a9 a10 M) (o : Int) (a : Int) (b : Int) (i : Int) (j : Int) (k : Int) (x : Int) M = dn_X6_merge_L37 (o : Int) (a : Int) (b : Int) n (i : Int) (j : Int) (k : Int) ((x + 1 : Nat) : Int) M := by
      rw [dn_X6_merge_J79, dn_X6_merge_J80, e_Eqt ⟨by omega, by omega⟩ rfl, e_Cl (ev_size (by omega) M), e_Eqf ⟨by omega, by omega⟩ (by omega), dn_X6_merge_J289, show ((x : Int) + 1) = ((x + 1 : Nat) : Int) by omega]
    by_cases c1 : par o a x = -1
    · have hm : mloop o a b (m + 1) x i j k u = mloop o a b m (x + 1) i j k u := by
        show (if par o a x ≠ -1 ∧ par o b x ≠ -1 then _ else _) = _
        rw [if_neg (fun q => q.1 c1)]
      rw [if_pos (by omega), h79, hm]
      exact ih n (x + 1) i j k u M (by omega) (by omega) hi hj hk (by omega) hA hB hO
    · rw [if_neg (by omega)]
      by_cases c2 : par o b x = -1
      · have hm : mloop o a b (m + 1) x i j k u = mloop o a b m (x + 1) i j k u := by
          show (if par o a x ≠ -1 ∧ par o b x ≠ -1 then _ else _) = _
          rw [if_neg (fun q => q.2 c2)]
        rw [if_pos (by omega), h79, hm]
        exact ih n (x + 1) i j k u M (by omega) (by omega) hi hj hk (by omega) hA hB hO
      · rw [if_neg (by omega)]
        have hm : mloop o a b (m + 1) x i j k u = mloop o a b m (x + 1) (x + 1) ((par o a x).toNat + 1) ((par o b x).toNat + 1) ((mpart o a b i x j (par o a x).toNat k (par o b x).toNat u).1 ++ [dg o x], (mpart o a b i x j (par o a x).toNat k (par o b x).toNat u).2) := by
          show (if par o a x ≠ -1 ∧ par o b x ≠ -1 then _ else _) = _
          rw [if_pos ⟨c1, c2⟩]
        rw [hm]
        have q1 : par o a x = ((par o a x).toNat : Int) := by omega
        have q2 : par o b x = ((par o b x).toNat : Int) := by omega
        have q3 : (par o a x).toNat < nl a := by omega
        have q4 : (par o b x).toNat < nl b := by omega
        generalize (par o a x).toNat = pa at q1 q3 ⊢
        generalize (par o b x).toNat = pb at q2 q4 ⊢
        obtain ⟨M1, e1, e2, e3⟩ := ev_J137 ho ha hb (fun a7 a8 a9 a10 M => dn_X6_merge_L37 (o : Int) (a : Int) (b : Int) n a7 a8 a9 a10 M) true i x j pa k pb (fun _ => hxo) (by omega) (by omega) (by omega) ⟨by omega, by omega, by omega⟩ u M (by omega) hO
        rw [b2_t rfl] at e1
        have hlen := mpart_len o a b i x j pa k pb u (by omega) (by omega)
        obtain ⟨M2, f1, f2, f3⟩ := ih n (x + 1) (x + 1) (pa + 1) (pb + 1) ((mpart o a b i x j pa k pb u).1 ++ [dg o x], (mpart o a b i x j pa k pb u).2) M1 (by omega) (by omega) (by omega) (by omega) (by omega) (by simp; omega) (fun k hk => by rw [e3 _ _ (by omega) (by omega)]; exact hA k hk) (fun k hk => by rw [e3 _ _ (by omega) (by omega)]; exact hB k hk) e2
        refine ⟨M2, ?_, f2, e3.trans f3⟩
        rw [dn_X6_merge_J80, e_Eqf ⟨by omega, by omega⟩ (by omega), dn_X6_merge_J96, e_Eqf ⟨by omega, by omega⟩ (by omega), e_Rd x rfl (by omega), hA x (by omega), dn_X6_merge_J115, e_Eqf ⟨by omega, by omega⟩ (by omega), e_Rd x rfl (by omega), hB x (by omega), q1, q2, e1, f1]
theorem ev_merge6 (ho : nl o ≤ 12 ∧ o < 4611686018427387904) (ha : nl a ≤ 12 ∧ a < 4611686018427387904) (hb : nl b ≤ 12 ∧ b < 4611686018427387904) (M : fMem) : ∃ M', dn_X6_merge (o : Int) (a : Int) (b : Int) M = some (0, M') ∧ mO (mres o a b) M' ∧ ∀ q k, ¬ (132 ≤ q ∧ q ≤ 135) → q ≠ 115 → M' q k = M q k := by
  obtain ⟨M1, e1, e2, e3⟩ := ev_pairUp6 ho ha (first := 1) (Or.inr rfl) M
  obtain ⟨M2, f1, f2, f3⟩ := ev_pairUp6 ho hb (first := 0) (Or.inl rfl) M1
  have w1 : wRow 1 = 133 := rfl
  have w0 : wRow 0 = 134 := rfl
  rw [w1] at e2 e3
  rw [w0] at f2 f3
  have hO : mO ([], false) (fup (fup M2 115 20 0) 115 21 0) := ⟨by rw [fup_ne (by omega), fup_self]; rfl, fun k _ hk => by simp at hk, by rw [fup_self, b2_f (by simp)]⟩
  have hfr : fM6 M2 (fup (fup M2 115 20 0) 115 21 0) := fun q k hq hr => by rw [fup_ne (by omega), fup_ne (by omega)]
  obtain ⟨M3, g1, g2, g3⟩ := ev_merge6_L ho ha hb (nl o) 600 0 0 0 0 ([], false) _ (by omega) (by omega) (by omega) (by omega) (by omega) (by simp) (fun k hk => by rw [hfr _ _ (by omega) (by omega), f3 _ _ (by omega)]; exact e2 k hk) (fun k hk => by rw [hfr _ _ (by omega) (by omega)]; exact f2 k hk) hO
  refine ⟨M3, ?_, g2, fun q k hq hr => by rw [g3 _ _ hr (by omega), hfr _ _ hr (by omega), f3 _ _ (by omega), e3 _ _ (by omega)]⟩
  rw [dn_X6_merge, e_Cl e1, e_Cl f1]
  simp only [fPt]
  rw [e_Pz (by omega)]
  rw [show ((0 : Nat) : Int) = 0 from rfl] at g1
  exact g1
theorem ev_mergedText_L {u : List Nat × Bool} {M : fMem} (hO : mO u M) (hl : u.1.length ≤ 12) (hx : ∀ x ∈ u.1, x < 1000) : ∀ (m n k : Nat), k + m = u.1.length → m < n → dn_X6_mergedText_L4 n (pk (u.1.take k) : Int) (k : Int) M = some ((pk u.1 : Int), M) := by
  intro m
  induction m with
  | zero =>
    intro n k hk hn
    obtain ⟨n, rfl⟩ : ∃ n', n = n' + 1 := ⟨n - 1, by omega⟩
    rw [dn_X6_mergedText_L4, dn_X6_mergedText_L4B]
    simp only [fGt, hO.1]
    rw [e_Let ⟨by omega, by omega⟩ (by omega), List.take_of_length_le (by omega)]
  | succ m ih =>
    intro n k hk hn
    obtain ⟨n, rfl⟩ : ∃ n', n = n' + 1 := ⟨n - 1, by omega⟩
    have hkl : k < u.1.length := by omega
    have hget : u.1.getD k 0 = u.1[k] := by simp [List.getD_eq_getElem?_getD, hkl]
    have hxk : u.1.getD k 0 < 1000 := by rw [hget]; exact hx _ (List.getElem_mem hkl)
    rw [dn_X6_mergedText_L4, dn_X6_mergedText_L4B]
    simp only [fGt, hO.1]
    rw [e_Lef ⟨by omega, by omega⟩ (by omega), e_Rd k rfl (by omega), hO.2.1 k (by omega) hkl, e_X2 (by omega)]
    have hs : u.1.take (k + 1) = u.1.take k ++ [u.1.getD k 0] := by rw [hget, List.take_succ_eq_append_getElem hkl]
    have hp : (32 * (pk (u.1.take k) : Int)) + (u.1.getD k 0 : Int) = (pk (u.1.take (k + 1)) : Int) := by
      rw [hs, pk_snoc]
      omega
    rw [hp, show ((k : Int) + 1) = ((k + 1 : Nat) : Int) by omega]
    exact ih n (k + 1) (by omega) (by omega)
theorem ev_mergedText {u : List Nat × Bool} {M : fMem} (hO : mO u M) (hl : u.1.length ≤ 12) (hx : ∀ x ∈ u.1, x < 1000) : dn_X6_mergedText M = some ((pk u.1 : Int), M) := by
  have := ev_mergedText_L hO hl hx u.1.length 600 0 (by omega) (by omega)
  rw [show ((0 : Nat) : Int) = 0 from rfl, List.take_zero] at this
  exact this
end PM6
