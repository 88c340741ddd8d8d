/-! the class's merging -/
section PM5
variable {o a b : Nat}
/-- what the merger's two comparisons hold -/
def cW (o a b : Nat) (M : fMem) : Prop := dIn 79 o a M ∧ dIn 97 o b M ∧ (∀ k, k < 12 → M 96 k = par o a k) ∧ ∀ k, k < 12 → M 114 k = par o b k
theorem cW.fr {M M' : fMem} (h : cW o a b M) (hf : f78 M M') : cW o a b M' := by
  obtain ⟨⟨h1, h2, h3, h4⟩, ⟨g1, g2, g3, g4⟩, p1, p2⟩ := h
  exact ⟨⟨by rw [hf _ _ (by omega)]; exact h1, by rw [hf _ _ (by omega)]; exact h2, fun i hi => by rw [hf _ _ (by omega)]; exact h3 i hi, fun i hi => by rw [hf _ _ (by omega)]; exact h4 i hi⟩,
    ⟨by rw [hf _ _ (by omega)]; exact g1, by rw [hf _ _ (by omega)]; exact g2, fun i hi => by rw [hf _ _ (by omega)]; exact g3 i hi, fun i hi => by rw [hf _ _ (by omega)]; exact g4 i hi⟩,
    fun k hk => by rw [hf _ _ (by omega)]; exact p1 k hk, fun k hk => by rw [hf _ _ (by omega)]; exact p2 k hk⟩
theorem mpart_len (o a b i e j ea k eb : Nat) (u : List Nat × Bool) (h1 : ea ≤ 12) (h2 : eb ≤ 12) : (mpart o a b i e j ea k eb u).1.length ≤ u.1.length + 27 := by
  unfold mpart
  split
  · simp [seg_len]; omega
  · split
    · simp [seg_len]; omega
    · simp [seg_len]; omega
theorem ev_mergePart (ho : nl o ≤ 12) (ha : nl a ≤ 12) (hb : nl b ≤ 12) (i e j ea k eb : Nat) (he : e ≤ nl o) (hea : ea ≤ nl a) (heb : eb ≤ nl b) (hs : i < 1000 ∧ j < 1000 ∧ k < 1000) (u : List Nat × Bool) (M : fMem) (hl : u.1.length < 70000) (hW : cW o a b M) (hO : cO u M) : ∃ M', dn_X3_mergePart (i : Int) (e : Int) (j : Int) (ea : Int) (k : Int) (eb : Int) M = some (0, M') ∧ cO (mpart o a b i e j ea k eb u) M' ∧ f78 M M' := by
  have r1 := hW.1.2.2.1
  have r2 := hW.1.2.2.2
  have r3 := hW.2.1.2.2.2
  rw [dn_X3_mergePart, e_Cl (ev_isSame 80 81 i e j ea ⟨he, ho⟩ ⟨hea, ha⟩ ⟨hs.1, hs.2.1⟩ M r1 r2), fEq_b2]
  unfold mpart
  by_cases c1 : same o i e a j ea = true
  · rw [if_pos c1, if_pos c1]
    obtain ⟨M1, e1, e2, e3⟩ := ev_takeAll (t := b) 99 (by omega) k eb heb hb u M (by omega) hs.2.2 r3 hO
    exact ⟨M1, by rw [e_Cl e1], e2, e3⟩
  · rw [if_neg c1, if_neg c1, e_Cl (ev_isSame 80 99 i e k eb ⟨he, ho⟩ ⟨heb, hb⟩ ⟨hs.1, hs.2.2⟩ M r1 r3), fEq_b2]
    obtain ⟨M1, e1, e2, e3⟩ := ev_takeAll (t := a) 81 (by omega) j ea hea ha u M (by omega) hs.2.1 r2 hO
    by_cases c2 : same o i e b k eb = true
    · rw [if_pos c2, if_pos (by simp [c2]), dn_X3_mergePart_J96]
      exact ⟨M1, by rw [e_Cl e1], e2, e3⟩
    · rw [if_neg c2, e_Cl (ev_isSame 81 99 j ea k eb ⟨hea, ha⟩ ⟨heb, hb⟩ ⟨hs.2.1, hs.2.2⟩ M r2 r3), fEq_b2]
      by_cases c3 : same a j ea b k eb = true
      · rw [if_pos c3, if_pos (by simp [c3]), dn_X3_mergePart_J96]
        exact ⟨M1, by rw [e_Cl e1], e2, e3⟩
      · rw [if_neg c3, if_neg (by simp [c2, c3]), e_Pz (by omega)]
        have hO1 : cO (u.1, true) (fup M 78 4 1) := ⟨by rw [fup_ne (by omega)]; exact hO.1, by rw [fup_ne (by omega)]; exact hO.2.1, by rw [fup_self, b2_t rfl]⟩
        have f0 : f78 M (fup M 78 4 1) := fun q k hq => fup_ne (by omega)
        obtain ⟨M2, a1, a2, a3⟩ := ev_take 17 (by omega) (by show u.1.length < _; omega) hO1
        obtain ⟨M3, b1, b2', b3⟩ := ev_takeAll (t := a) 81 (by omega) j ea hea ha _ M2 (by simp; omega) hs.2.1 (fun x hx => by rw [a3 _ _ (by omega), f0 _ _ (by omega)]; exact r2 x hx) a2
        obtain ⟨M4, c1', c2', c3'⟩ := ev_take 18 (by omega) (by simp [seg_len]; omega) b2'
        obtain ⟨M5, d1, d2, d3⟩ := ev_takeAll (t := b) 99 (by omega) k eb heb hb _ M4 (by simp [seg_len]; omega) hs.2.2 (fun x hx => by rw [c3' _ _ (by omega), b3 _ _ (by omega), a3 _ _ (by omega), f0 _ _ (by omega)]; exact r3 x hx) c2'
        obtain ⟨M6, g1, g2, g3⟩ := ev_take 19 (by omega) (by simp [seg_len]; omega) d2
        refine ⟨M6, ?_, g2, f0.trans (a3.trans (b3.trans (c3'.trans (d3.trans g3))))⟩
        rw [show (17 : Int) = ((17 : Nat) : Int) from rfl, e_Cl a1, e_Cl b1, show (18 : Int) = ((18 : Nat) : Int) from rfl, e_Cl c1', e_Cl d1, show (19 : Int) = ((19 : Nat) : Int) from rfl, e_Cl g1]
theorem ev_merge5_L (ho : nl o ≤ 12) (ha : nl a ≤ 12) (hb : nl b ≤ 12) (a1 a3 a5 : Int) (xx : Int → Int → Int → Int → fMem → fOp) : ∀ (m n x i j k : Nat) (u : List Nat × Bool) (M : fMem), x + m = nl o → m < n → i < 100 → j < 100 → k < 100 → u.1.length ≤ 30 * x → cW o a b M → cO u M → ∃ M', dn_X3_merge_L46 a1 a3 a5 xx n (i : Int) (j : Int) (k : Int) (x : Int) M = xx ((mloop o a b m x i j k u).1 : Int) ((mloop o a b m x i j k u).2.1 : Int) ((mloop o a b m x i j k u).2.2.1 : Int) (nl o : Int) M' ∧ cO (mloop o a b m x i j k u).2.2.2 M' ∧ f78 M M' ∧ (mloop o a b m x i j k u).1 < 100 ∧ (mloop o a b m x i j k u).2.1 < 100 ∧ (mloop o a b m x i j k u).2.2.1 < 100 ∧ (mloop o a b m x i j k u).2.2.2.1.length ≤ 30 * nl o := by
  intro m
  induction m with
  | zero =>
    intro n x i j k u M hx hn hi hj hk hl hW hO
    cases n with
    | zero => omega
    | succ n =>
      refine ⟨M, ?_, hO, f78.rf M, hi, hj, hk, by show u.1.length ≤ _; omega⟩
      rw [dn_X3_merge_L46, dn_X3_merge_L46B]
      simp only [fGt, hW.1.1]
      rw [e_Let ⟨by omega, by omega⟩ (by omega), show (x : Int) = (nl o : Int) by omega]
      rfl
  | succ m ih =>
    intro n x i j k u M hx hn hi hj hk hl hW hO
    cases n with
    | zero => omega
    | succ n =>
      have p1 := par_in o a x
      have p2 := par_in o b x
      have hxo : x < nl o := by omega
      rw [dn_X3_merge_L46, dn_X3_merge_L46B]
      simp only [fGt, hW.1.1, dn_X3_merge_J142]
      rw [e_Lef ⟨by omega, by omega⟩ (by omega), e_Rd x rfl (by omega), e_Rd x rfl (by omega), hW.2.2.1 x (by omega), hW.2.2.2 x (by omega), e_Eq ⟨by omega, by omega⟩, e_Eq ⟨by omega, by omega⟩]
      by_cases c1 : par o a x = -1
      · rw [if_pos c1, show ((x : Int) + 1) = ((x + 1 : Nat) : Int) by omega]
        have hm : mloop o a b (m + 1) x i j k u = mloop o a b m (x + 1) i j k u := by
          show (if par o a x ≠ -1 ∧ par o b x ≠ -1 then _ else _) = _
          rw [if_neg (fun q => q.1 c1)]
        rw [hm]
        exact ih n (x + 1) i j k u M (by omega) (by omega) hi hj hk (by omega) hW hO
      · rw [if_neg c1]
        by_cases c2 : par o b x = -1
        · rw [if_pos c2, show ((x : Int) + 1) = ((x + 1 : Nat) : Int) by omega]
          have hm : mloop o a b (m + 1) x i j k u = mloop o a b m (x + 1) i j k u := by
            show (if par o a x ≠ -1 ∧ par o b x ≠ -1 then _ else _) = _
            rw [if_neg (fun q => q.2 c2)]
          rw [hm]
          exact ih n (x + 1) i j k u M (by omega) (by omega) hi hj hk (by omega) hW hO
        · rw [if_neg c2]
          have hm : mloop o a b (m + 1) x i j k u = mloop o a b m (x + 1) (x + 1) ((par o a x).toNat + 1) ((par o b x).toNat + 1) ((mpart o a b i x j (par o a x).toNat k (par o b x).toNat u).1 ++ [dg o x], (mpart o a b i x j (par o a x).toNat k (par o b x).toNat u).2) := by
            show (if par o a x ≠ -1 ∧ par o b x ≠ -1 then _ else _) = _
            rw [if_pos ⟨c1, c2⟩]
          rw [hm]
          have q1 : par o a x = ((par o a x).toNat : Int) := by omega
          have q2 : par o b x = ((par o b x).toNat : Int) := by omega
          have q3 : (par o a x).toNat < nl a := by omega
          have q4 : (par o b x).toNat < nl b := by omega
          generalize (par o a x).toNat = pa at q1 q3 ⊢
          generalize (par o b x).toNat = pb at q2 q4 ⊢
          obtain ⟨M1, e1, e2, e3⟩ := ev_mergePart ho ha hb i x j pa k pb (by omega) (by omega) (by omega) ⟨by omega, by omega, by omega⟩ u M (by omega) hW hO
          have hlen := mpart_len o a b i x j pa k pb u (by omega) (by omega)
          obtain ⟨M2, f1, f2, f3⟩ := ev_take (dg o x) (by have := dg_32 o x; omega) (by omega) e2
          obtain ⟨M3, g1, g2, g3, g4⟩ := ih n (x + 1) (x + 1) (pa + 1) (pb + 1) ((mpart o a b i x j pa k pb u).1 ++ [dg o x], (mpart o a b i x j pa k pb u).2) M2 (by omega) (by omega) (by omega) (by omega) (by omega) (by simp; omega) ((hW.fr e3).fr f3) f2
          refine ⟨M3, ?_, g2, e3.trans (f3.trans g3), g4⟩
          rw [← g1, q1, q2, e_Cl e1, e_Rd x rfl (by omega), (hW.fr e3).1.2.2.1 x hxo, e_Cl f1, show ((x : Int) + 1) = ((x + 1 : Nat) : Int) by omega, show ((pa : Int) + 1) = ((pa + 1 : Nat) : Int) by omega, show ((pb : Int) + 1) = ((pb + 1 : Nat) : Int) by omega]
theorem ev_merge5 (ho : nl o ≤ 12 ∧ o < 9223372036854775808) (ha : nl a ≤ 12 ∧ a < 9223372036854775808) (hb : nl b ≤ 12 ∧ b < 9223372036854775808) (M : fMem) : ∃ M', dn_X3_merge (o : Int) (a : Int) (b : Int) M = some (0, M') ∧ cO (mres o a b) M' ∧ (mres o a b).1.length ≤ 400 ∧ ∀ q k, ¬ (78 ≤ q ∧ q < 115) → M' q k = M q k := by
  obtain ⟨M1, e1, e2, e3, e4, e5⟩ := ev_compare 79 ho ha M
  obtain ⟨M2, f1, f2, f3, f4, f5⟩ := ev_compare 97 ho hb M1
  have hfr : f78 M2 (fup (fup (fup M2 78 2 0) 78 3 0) 78 4 0) := fun q k hq => by rw [fup_ne (by omega), fup_ne (by omega), fup_ne (by omega)]
  have hW2 : cW o a b M2 := by
    obtain ⟨h1, h2, h3, h4⟩ := e2
    exact ⟨⟨by rw [f5 _ _ (by omega)]; exact h1, by rw [f5 _ _ (by omega)]; exact h2, fun i hi => by rw [f5 _ _ (by omega)]; exact h3 i hi, fun i hi => by rw [f5 _ _ (by omega)]; exact h4 i hi⟩, f2, fun k hk => by rw [f5 _ _ (by omega)]; exact e4 k hk, f4⟩
  have hO : cO ([], false) (fup (fup (fup M2 78 2 0) 78 3 0) 78 4 0) := ⟨by rw [fup_ne (by omega), fup_self]; rfl, by rw [fup_ne (by omega), fup_ne (by omega), fup_self]; rfl, by rw [fup_self, b2_f (by simp)]⟩
  obtain ⟨M3, g1, g2, g3, g4, g5, g6, g7⟩ := ev_merge5_L ho.1 ha.1 hb.1 (o : Int) (a : Int) (b : Int) (fun y16 y17 y18 y19 M20 => fGt M20 79 2 (fun x21 => fGt M20 79 3 (fun x22 => fGt M20 97 3 (fun x23 => fCl (dn_X3_mergePart y16 x21 y17 x22 y18 x23 M20) (fun _ M25 => some (0, M25)))))) (nl o) 600 0 0 0 0 ([], false) _ (by omega) (by omega) (by omega) (by omega) (by omega) (by simp) (hW2.fr hfr) hO
  have hW3 := (hW2.fr hfr).fr g3
  have hmres : mres o a b = mpart o a b (mloop o a b (nl o) 0 0 0 0 ([], false)).1 (nl o) (mloop o a b (nl o) 0 0 0 0 ([], false)).2.1 (nl a) (mloop o a b (nl o) 0 0 0 0 ([], false)).2.2.1 (nl b) (mloop o a b (nl o) 0 0 0 0 ([], false)).2.2.2 := rfl
  rw [hmres]
  generalize mloop o a b (nl o) 0 0 0 0 ([], false) = w at g1 g2 g4 g5 g6 g7 ⊢
  obtain ⟨M4, k1, k2, k3⟩ := ev_mergePart ho.1 ha.1 hb.1 w.1 (nl o) w.2.1 (nl a) w.2.2.1 (nl b) (by omega) (by omega) (by omega) ⟨by omega, by omega, by omega⟩ w.2.2.2 M3 (by omega) hW3 g2
  have hlen := mpart_len o a b w.1 (nl o) w.2.1 (nl a) w.2.2.1 (nl b) w.2.2.2 (by omega) (by omega)
  refine ⟨M4, ?_, k2, by omega, fun q k hq => ?_⟩
  · rw [dn_X3_merge, e_Cl e1, e_Cl f1]
    simp only [fPt]
    rw [e_Pz (by omega)]
    rw [show ((0 : Nat) : Int) = 0 from rfl] at g1
    rw [g1]
    simp only [fGt, hW3.1.1, hW3.1.2.1, hW3.2.1.2.1]
    rw [e_Cl k1]
  · rw [k3 _ _ (by omega), g3 _ _ (by omega), hfr _ _ (by omega), f5 _ _ (by omega), e5 _ _ (by omega)]
end PM5
