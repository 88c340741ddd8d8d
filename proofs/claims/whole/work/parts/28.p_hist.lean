/-! a file's invariant, and how the class and the reference hold it -/
def tOk (t : Int) : Prop := 0 ≤ t ∧ t < 9223372036854775808 ∧ okR 12 t.toNat = true
theorem tOk.nat {t : Int} (h : tOk t) : ∃ x : Nat, t = (x : Int) ∧ x < 4611686018427387904 ∧ nl x ≤ 12 ∧ lnOk x ∧ okR 12 x = true := by
  obtain ⟨h1, h2, h3⟩ := h
  obtain ⟨x, rfl⟩ := Int.eq_ofNat_of_zero_le h1
  have h4 := lnOk_of (t := x) (by omega) h3
  have h5 := nl_lt 12 x (by omega) h4.2
  exact ⟨x, rfl, by omega, h4.2, h4.1, h3⟩
/-- branches before b, not the vendor's, that go out from p -/
def cpt (pt : Nat → Int) (v p : Int) : Nat → Nat
  | 0 => 0
  | k + 1 => (if k ≠ 0 ∧ (k : Int) ≠ v ∧ pt k = p then 1 else 0) + cpt pt v p k
theorem cpt_le (pt : Nat → Int) (v p : Int) : ∀ k, cpt pt v p k ≤ k := by
  intro k
  induction k with
  | zero => exact Nat.le_refl _
  | succ k ih =>
    show (if k ≠ 0 ∧ (k : Int) ≠ v ∧ pt k = p then 1 else 0) + cpt pt v p k ≤ k + 1
    split <;> omega
theorem cpt_congr {pt pt' : Nat → Int} {v v' p : Int} : ∀ {k : Nat}, (∀ j, j < k → pt' j = pt j ∧ ((j : Int) = v' ↔ (j : Int) = v)) → cpt pt' v' p k = cpt pt v p k := by
  intro k
  induction k with
  | zero => intro _; rfl
  | succ k ih =>
    intro h
    show (if k ≠ 0 ∧ (k : Int) ≠ v' ∧ pt' k = p then 1 else 0) + cpt pt' v' p k = (if k ≠ 0 ∧ (k : Int) ≠ v ∧ pt k = p then 1 else 0) + cpt pt v p k
    have h1 := h k (by omega)
    rw [ih (fun j hj => h j (by omega)), h1.1]
    simp only [ne_eq, h1.2]
def mgOf (A : FS) (b : Nat) : Int := if (b : Int) = sv A then 1 else 2 * (cpt (spt A) (sv A) (spt A b) b : Int) + 2
def AI (A : FS) (so : Nat → Int) : Prop :=
  (sn A ≤ 24 ∧ sb A ≤ 5) ∧
  (∀ r, r < sn A → tOk (stx A r)) ∧
  (∀ r, r < sn A → sdd A r = 0 ∨ sdd A r = 1) ∧
  (∀ r, r < sn A → 0 ≤ sho A r ∧ sho A r ≤ (sb A : Int)) ∧
  (∀ r, r < sn A → srk A r = (cnt (sho A) (sho A r) (r + 1) : Int)) ∧
  (∀ b, 1 ≤ b → b ≤ sb A → 0 ≤ spt A b ∧ spt A b < (sn A : Int) ∧ sho A (spt A b).toNat < (b : Int)) ∧
  (∀ b, 1 ≤ b → b ≤ sb A → smg A b = mgOf A b) ∧
  (sv A = -1 ∨ (1 ≤ sv A ∧ sv A ≤ (sb A : Int))) ∧
  (0 ≤ sd A ∧ sd A ≤ (sb A : Int)) ∧
  (∀ t, t < 5 → snm A t = -1 ∨ (so t = 1 ∧ 0 ≤ snm A t ∧ snm A t < (sn A : Int)) ∨ (so t = 2 ∧ 1 ≤ snm A t ∧ snm A t ≤ (sb A : Int))) ∧
  (0 < sn A → sho A 0 = 0) ∧
  (sn A = 0 → sd A = 0) ∧
  (0 < sn A → lst (sho A) (sd A) (sn A) ≠ -1)
def RC (P : Nat) (A : FS) (M : fMem) : Prop :=
  (M P 5 = (sn A : Int) ∧ M P 10 = (sb A : Int) + 1 ∧ M P 11 = sv A ∧ M P 12 = sd A) ∧
  (∀ r, r < 24 → M (P + 1) r = stx A r ∧ M (P + 2) r = sdd A r ∧ M (P + 3) r = sho A r ∧ M (P + 4) r = srk A r) ∧
  (∀ b, 1 ≤ b → b < 6 → M (P + 6) b = spt A b ∧ M (P + 7) b = smg A b) ∧ M (P + 7) 0 = 1 ∧
  (∀ t, t < 5 → M (P + 10) t = snm A t) ∧
  (∀ b, b < 6 → M (P + 8) b = (cnt (sho A) (b : Int) (sn A) : Int)) ∧
  (∀ b, b ≤ sb A → M (P + 9) b = tipOf A b (sn A)) ∧
  (∀ r, r < sn A → M (P + 5) r = tipOf A (sho A r).toNat r)
def RM (f : Nat) (A : FS) (M : fMem) : Prop :=
  (M 116 f = (sn A : Int) ∧ M 121 f = (sb A : Int) ∧ M 124 f = sv A ∧ M 125 f = sd A) ∧
  (∀ r, r < 24 → M 117 (24 * f + r) = stx A r ∧ M 118 (24 * f + r) = sdd A r ∧ M 119 (24 * f + r) = sho A r ∧ M 120 (24 * f + r) = srk A r) ∧
  (∀ b, 1 ≤ b → b < 6 → M 122 (6 * f + b) = spt A b ∧ M 123 (6 * f + b) = smg A b) ∧
  (∀ t, t < 5 → M 127 (5 * f + t) = snm A t)
/-- only the cells of one history have changed -/
def frP (P : Nat) (M M' : fMem) : Prop := ∀ q k, ¬ (P ≤ q ∧ q ≤ P + 10) → M' q k = M q k
theorem frP.trans {P : Nat} {M M1 M2 : fMem} (h : frP P M M1) (h' : frP P M1 M2) : frP P M M2 := fun q k hq => (h' q k hq).trans (h q k hq)
theorem frP.rf (P : Nat) (M : fMem) : frP P M M := fun _ _ _ => rfl
def fApp (A : FS) (b : Nat) (t d : Int) : FS := (sn A + 1, sb A, sv A, sd A, pup (stx A) (sn A) t, pup (sdd A) (sn A) d, pup (sho A) (sn A) (b : Int), pup (srk A) (sn A) ((cnt (sho A) (b : Int) (sn A) + 1 : Nat) : Int), spt A, smg A, snm A)
def fOpn (A : FS) (p m : Int) : FS := (sn A, sb A + 1, sv A, sd A, stx A, sdd A, sho A, srk A, pup (spt A) (sb A + 1) p, pup (smg A) (sb A + 1) m, snm A)
def fVen (A : FS) (v : Int) : FS := (sn A, sb A, v, sd A, stx A, sdd A, sho A, srk A, spt A, smg A, snm A)
def fStd (A : FS) (v : Int) : FS := (sn A, sb A, sv A, v, stx A, sdd A, sho A, srk A, spt A, smg A, snm A)
def fNam (A : FS) (t : Nat) (v : Int) : FS := (sn A, sb A, sv A, sd A, stx A, sdd A, sho A, srk A, spt A, smg A, pup (snm A) t v)
theorem pup_s (F : Nat → Int) (i : Nat) (v : Int) : pup F i v i = v := if_pos rfl
theorem pup_n {F : Nat → Int} {i k : Nat} {v : Int} (h : k ≠ i) : pup F i v k = F k := if_neg h
theorem lst_s (ho : Nat → Int) (b : Int) (n : Nat) : lst ho b (n + 1) = if ho n = b then (n : Int) else lst ho b n := rfl
theorem cnt_s (ho : Nat → Int) (b : Int) (n : Nat) : cnt ho b (n + 1) = (if ho n = b then 1 else 0) + cnt ho b n := rfl
theorem tipOf_in {A : FS} {so : Nat → Int} (hI : AI A so) {b n : Nat} (hb : b ≤ sb A) (hn : n ≤ sn A) : tipOf A b n = -1 ∨ (0 ≤ tipOf A b n ∧ tipOf A b n < (sn A : Int)) := by
  unfold tipOf
  rcases lst_in (sho A) (b : Int) n with h | ⟨r, h, h1, -⟩
  · rw [if_pos h]
    by_cases h0 : b = 0
    · rw [if_pos h0]; exact Or.inl rfl
    · rw [if_neg h0]
      have := hI.2.2.2.2.2.1 b (by omega) hb
      right; omega
  · rw [if_neg (by omega), h]
    right; omega
section PH
variable {P : Nat} {A : FS} {so : Nat → Int} {M : fMem}
theorem ev_isThere (hR : RC P A M) (hI : AI A so) : dn_X2_isThere P M = some (b2 (0 < sn A), M) := by
  have h := hI.1.1
  rw [dn_X2_isThere]
  simp only [fGt, hR.1.1]
  rw [e_Le ⟨by omega, by omega⟩, fRz_0, fRz_1]
  by_cases h0 : 0 < sn A
  · rw [if_neg (by omega), b2_t h0]
  · rw [if_pos (by omega), b2_f h0]
theorem ev_tip (hR : RC P A M) {b : Nat} (hb : b ≤ sb A) (hI : AI A so) : dn_X2_tip P (b : Int) M = some (tipOf A b (sn A), M) := by
  have h := hI.1.2
  rw [dn_X2_tip, e_Rd b rfl (by omega), hR.2.2.2.2.2.2.1 b hb]
theorem ev_isAlive (hR : RC P A M) (hI : AI A so) {r : Int} (hr : r = -1 ∨ (0 ≤ r ∧ r < (sn A : Int))) : dn_X2_isAlive P r M = some (b2 (r ≠ -1 ∧ sdd A r.toNat = 0), M) := by
  have h := hI.1.1
  rw [dn_X2_isAlive, e_Eq ⟨by omega, by omega⟩, fRz_0]
  by_cases h1 : r = -1
  · rw [if_pos h1, b2_f (fun q => q.1 h1)]
  · rw [if_neg h1]
    obtain ⟨x, rfl⟩ := Int.eq_ofNat_of_zero_le (show 0 ≤ r by omega)
    have hd := hI.2.2.1 x (by omega)
    rw [e_Rd x rfl (by omega), (hR.2.1 x (by omega)).2.1, e_Eq ⟨by omega, by omega⟩, fRz_1]
    by_cases h2 : sdd A x = 0
    · rw [if_pos h2, b2_t ⟨h1, h2⟩]
    · rw [if_neg h2, b2_f (fun q => h2 q.2)]
theorem ev_hasRoom (hR : RC P A M) (hI : AI A so) {x y : Int} (hx : 0 ≤ x ∧ x < 10) (hy : 0 ≤ y ∧ y < 10) : dn_X2_hasRoom P x y M = some (b2 ((sn A : Int) + x ≤ 24 ∧ (sb A : Int) + 1 + y ≤ 6), M) := by
  have h := hI.1
  rw [dn_X2_hasRoom]
  simp only [fGt, hR.1.1, hR.1.2.1]
  rw [e_Lt ⟨by omega, by omega⟩, e_Lt ⟨by omega, by omega⟩, fRz_0, fRz_1]
  by_cases h1 : (24 : Int) < (sn A : Int) + x
  · rw [if_pos h1, b2_f (by omega)]
  · rw [if_neg h1]
    by_cases h2 : (6 : Int) < (sb A : Int) + 1 + y
    · rw [if_pos h2, b2_f (by omega)]
    · rw [if_neg h2, b2_t (by omega)]
theorem tip_app {b' n : Nat} (hn : n ≤ sn A) (b : Nat) (t d : Int) : tipOf (fApp A b t d) b' n = tipOf A b' n := by
  unfold tipOf
  have e : lst (sho (fApp A b t d)) (b' : Int) n = lst (sho A) (b' : Int) n := lst_congr (fun k hk => pup_n (by omega))
  rw [e]
  rfl
theorem ev_append (hR : RC P A M) {b : Nat} {t d : Int} (hb : b ≤ sb A) (hn : sn A < 24) (hsb : sb A ≤ 5) (hd : d = 0 ∨ d = 1) : ∃ M', dn_X2_append P (b : Int) t d M = some ((sn A : Int), M') ∧ RC P (fApp A b t d) M' ∧ frP P M M' := by
  obtain ⟨⟨h1, h2, h3, h4⟩, h5, h6, h7, h8, h9, h10, h11⟩ := hR
  rw [dn_X2_append]
  simp only [fGt, fPt, h1]
  rw [e_Rd b rfl (by omega), fup_ne (by omega), h9 b (by omega), e_Wr b rfl (by omega), e_Wr (sn A) rfl (by omega), e_Wz (sn A) rfl (by omega) hd, e_Wr (sn A) rfl (by omega), e_Rd b rfl (by omega), fup_ne (by omega), fup_ne (by omega), fup_ne (by omega), fup_self, e_Wr (sn A) rfl (by omega), e_Rd b rfl (by omega), fup_ne (by omega), fup_ne (by omega), fup_ne (by omega), fup_ne (by omega), fup_ne (by omega), fup_ne (by omega), h10 b hb, e_Wr (sn A) rfl (by omega), e_Wr b rfl (by omega)]
  refine ⟨_, rfl, ?_, fun q k hq => by rw [fup_ne (by omega), fup_ne (by omega), fup_ne (by omega), fup_ne (by omega), fup_ne (by omega), fup_ne (by omega), fup_ne (by omega), fup_ne (by omega)]⟩
  refine ⟨⟨?_, ?_, ?_, ?_⟩, fun r hr => ?_, fun b' hb1 hb2 => ?_, ?_, fun t' ht => ?_, fun b' hb' => ?_, fun b' hb' => ?_, fun r hr => ?_⟩
  · rw [fup_ne (by omega), fup_ne (by omega), fup_ne (by omega), fup_ne (by omega), fup_ne (by omega), fup_ne (by omega), fup_ne (by omega), fup_self]
    show _ = ((sn A + 1 : Nat) : Int)
    omega
  · rw [fup_ne (by omega), fup_ne (by omega), fup_ne (by omega), fup_ne (by omega), fup_ne (by omega), fup_ne (by omega), fup_ne (by omega), fup_ne (by omega)]; exact h2
  · rw [fup_ne (by omega), fup_ne (by omega), fup_ne (by omega), fup_ne (by omega), fup_ne (by omega), fup_ne (by omega), fup_ne (by omega), fup_ne (by omega)]; exact h3
  · rw [fup_ne (by omega), fup_ne (by omega), fup_ne (by omega), fup_ne (by omega), fup_ne (by omega), fup_ne (by omega), fup_ne (by omega), fup_ne (by omega)]; exact h4
  · have hh := h5 r hr
    by_cases hrn : r = sn A
    · subst hrn
      refine ⟨?_, ?_, ?_, ?_⟩
      · rw [fup_ne (by omega), fup_ne (by omega), fup_ne (by omega), fup_ne (by omega), fup_ne (by omega), fup_self]; exact (pup_s _ _ _).symm
      · rw [fup_ne (by omega), fup_ne (by omega), fup_ne (by omega), fup_ne (by omega), fup_self]; exact (pup_s _ _ _).symm
      · rw [fup_ne (by omega), fup_ne (by omega), fup_ne (by omega), fup_self]; exact (pup_s _ _ _).symm
      · rw [fup_ne (by omega), fup_ne (by omega), fup_self]
        show _ = pup (srk A) (sn A) _ (sn A)
        rw [pup_s]
        omega
    · refine ⟨?_, ?_, ?_, ?_⟩
      · rw [fup_ne (by omega), fup_ne (by omega), fup_ne (by omega), fup_ne (by omega), fup_ne (by omega), fup_ne (by omega), fup_ne (by omega), fup_ne (by omega)]; exact hh.1.trans (pup_n hrn).symm
      · rw [fup_ne (by omega), fup_ne (by omega), fup_ne (by omega), fup_ne (by omega), fup_ne (by omega), fup_ne (by omega), fup_ne (by omega), fup_ne (by omega)]; exact hh.2.1.trans (pup_n hrn).symm
      · rw [fup_ne (by omega), fup_ne (by omega), fup_ne (by omega), fup_ne (by omega), fup_ne (by omega), fup_ne (by omega), fup_ne (by omega), fup_ne (by omega)]; exact hh.2.2.1.trans (pup_n hrn).symm
      · rw [fup_ne (by omega), fup_ne (by omega), fup_ne (by omega), fup_ne (by omega), fup_ne (by omega), fup_ne (by omega), fup_ne (by omega), fup_ne (by omega)]; exact hh.2.2.2.trans (pup_n hrn).symm
  · rw [fup_ne (by omega), fup_ne (by omega), fup_ne (by omega), fup_ne (by omega), fup_ne (by omega), fup_ne (by omega), fup_ne (by omega), fup_ne (by omega), fup_ne (by omega), fup_ne (by omega), fup_ne (by omega), fup_ne (by omega), fup_ne (by omega), fup_ne (by omega), fup_ne (by omega), fup_ne (by omega)]
    exact h6 b' hb1 hb2
  · rw [fup_ne (by omega), fup_ne (by omega), fup_ne (by omega), fup_ne (by omega), fup_ne (by omega), fup_ne (by omega), fup_ne (by omega), fup_ne (by omega)]; exact h7
  · rw [fup_ne (by omega), fup_ne (by omega), fup_ne (by omega), fup_ne (by omega), fup_ne (by omega), fup_ne (by omega), fup_ne (by omega), fup_ne (by omega)]; exact h8 t' ht
  · show _ = (cnt (pup (sho A) (sn A) (b : Int)) (b' : Int) (sn A + 1) : Int)
    rw [cnt_s, pup_s, cnt_congr (ho := sho A) (fun k hk => pup_n (by omega)), fup_ne (by omega), fup_ne (by omega), fup_ne (by omega), fup_ne (by omega), fup_ne (by omega), fup_ne (by omega)]
    by_cases hbb : b' = b
    · subst hbb
      rw [fup_self, if_pos rfl]
      omega
    · rw [fup_ne (by omega), fup_ne (by omega), h9 b' hb', if_neg (by omega), Nat.zero_add]
  · have hb'' : b' ≤ sb A := hb'
    show _ = tipOf (fApp A b t d) b' (sn A + 1)
    unfold tipOf
    show _ = if lst (pup (sho A) (sn A) (b : Int)) (b' : Int) (sn A + 1) = -1 then _ else lst (pup (sho A) (sn A) (b : Int)) (b' : Int) (sn A + 1)
    rw [lst_s, pup_s, lst_congr (ho := sho A) (fun k hk => pup_n (by omega))]
    by_cases hbb : b' = b
    · subst hbb
      rw [fup_self, if_pos rfl, if_neg (by omega)]
    · rw [fup_ne (by omega), fup_ne (by omega), fup_ne (by omega), fup_ne (by omega), fup_ne (by omega), fup_ne (by omega), fup_ne (by omega), fup_ne (by omega), h10 b' hb'', if_neg (show ¬ (b : Int) = (b' : Int) by omega)]
      rfl
  · have hr' : r < sn A + 1 := hr
    show _ = tipOf (fApp A b t d) (pup (sho A) (sn A) (b : Int) r).toNat r
    rw [tip_app (by omega), fup_ne (by omega)]
    by_cases hrn : r = sn A
    · subst hrn
      rw [fup_self, pup_s]
      rfl
    · rw [fup_ne (by omega), fup_ne (by omega), fup_ne (by omega), fup_ne (by omega), fup_ne (by omega), fup_ne (by omega), fup_ne (by omega), pup_n hrn]
      exact h11 r (by omega)
theorem tip_opn {b' n : Nat} (p m : Int) (hb : b' ≤ sb A) : tipOf (fOpn A p m) b' n = tipOf A b' n := by
  unfold tipOf
  show (if lst (sho A) (b' : Int) n = -1 then (if b' = 0 then -1 else pup (spt A) (sb A + 1) p b') else lst (sho A) (b' : Int) n) = _
  rw [pup_n (by omega)]
theorem ev_openWith (hR : RC P A M) (hI : AI A so) {p m : Int} (hb : sb A < 5) : ∃ M', dn_X2_openBranchWith P p m M = some (((sb A + 1 : Nat) : Int), M') ∧ RC P (fOpn A p m) M' ∧ frP P M M' := by
  obtain ⟨⟨h1, h2, h3, h4⟩, h5, h6, h7, h8, h9, h10, h11⟩ := hR
  rw [dn_X2_openBranchWith]
  simp only [fGt, fPt, h2]
  rw [e_Wr (sb A + 1) (by omega) (by omega), e_Wr (sb A + 1) (by omega) (by omega), e_Wr (sb A + 1) (by omega) (by omega)]
  have hF : ∀ q k, ¬ (q = P ∧ k = 10) → ¬ (q = P + 6 ∧ k = sb A + 1) → ¬ (q = P + 7 ∧ k = sb A + 1) → ¬ (q = P + 9 ∧ k = sb A + 1) → (fup (fup (fup (fup M P 10 ((sb A : Int) + 1 + 1)) (P + 6) (sb A + 1) p) (P + 7) (sb A + 1) m) (P + 9) (sb A + 1) p) q k = M q k := by
    intro q k q1 q2 q3 q4
    rw [fup_ne q4, fup_ne q3, fup_ne q2, fup_ne q1]
  refine ⟨_, by rw [show ((sb A + 1 : Nat) : Int) = (sb A : Int) + 1 by omega], ?_, fun q k hq => hF q k (by omega) (by omega) (by omega) (by omega)⟩
  refine ⟨⟨?_, ?_, ?_, ?_⟩, fun r hr => ?_, fun b' hb1 hb2 => ?_, ?_, fun t' ht => ?_, fun b' hb' => ?_, fun b' hb' => ?_, fun r hr => ?_⟩
  · rw [hF _ _ (by omega) (by omega) (by omega) (by omega)]; exact h1
  · rw [fup_ne (by omega), fup_ne (by omega), fup_ne (by omega), fup_self]
    show _ = ((sb A + 1 : Nat) : Int) + 1
    omega
  · rw [hF _ _ (by omega) (by omega) (by omega) (by omega)]; exact h3
  · rw [hF _ _ (by omega) (by omega) (by omega) (by omega)]; exact h4
  · rw [hF _ _ (by omega) (by omega) (by omega) (by omega), hF _ _ (by omega) (by omega) (by omega) (by omega), hF _ _ (by omega) (by omega) (by omega) (by omega), hF _ _ (by omega) (by omega) (by omega) (by omega)]
    exact h5 r hr
  · by_cases hbb : b' = sb A + 1
    · subst hbb
      refine ⟨?_, ?_⟩
      · rw [fup_ne (by omega), fup_ne (by omega), fup_self]; exact (pup_s _ _ _).symm
      · rw [fup_ne (by omega), fup_self]; exact (pup_s _ _ _).symm
    · rw [hF _ _ (by omega) (by omega) (by omega) (by omega), hF _ _ (by omega) (by omega) (by omega) (by omega)]
      exact ⟨(h6 b' hb1 hb2).1.trans (pup_n hbb).symm, (h6 b' hb1 hb2).2.trans (pup_n hbb).symm⟩
  · rw [hF _ _ (by omega) (by omega) (by omega) (by omega)]; exact h7
  · rw [hF _ _ (by omega) (by omega) (by omega) (by omega)]; exact h8 t' ht
  · rw [hF _ _ (by omega) (by omega) (by omega) (by omega)]; exact h9 b' hb'
  · have hb'' : b' ≤ sb A + 1 := hb'
    by_cases hbb : b' = sb A + 1
    · subst hbb
      rw [fup_self]
      show p = (if lst (sho A) ((sb A + 1 : Nat) : Int) (sn A) = -1 then (if sb A + 1 = 0 then -1 else pup (spt A) (sb A + 1) p (sb A + 1)) else _)
      rcases lst_in (sho A) ((sb A + 1 : Nat) : Int) (sn A) with h | ⟨r, -, hr1, hr2, -⟩
      · rw [if_pos h, if_neg (by omega), pup_s]
      · have := hI.2.2.2.1 r hr1
        omega
    · rw [hF _ _ (by omega) (by omega) (by omega) (by omega)]
      show _ = tipOf (fOpn A p m) b' (sn A)
      rw [tip_opn p m (by omega)]
      exact h10 b' (by omega)
  · have hr' : r < sn A := hr
    have hh := hI.2.2.2.1 r hr'
    rw [hF _ _ (by omega) (by omega) (by omega) (by omega)]
    show _ = tipOf (fOpn A p m) (sho A r).toNat r
    rw [tip_opn p m (by omega)]
    exact h11 r hr'
theorem ev_freeMagic_L (hR : RC P A M) (hI : AI A so) {p : Nat} (hp : p < 24) : ∀ (m n b : Nat), b + m = sb A + 1 → 1 ≤ b → m < n → dn_X2_freeMagic_L4 P (p : Int) n (2 + 2 * (cpt (spt A) (sv A) (p : Int) b : Int)) (b : Int) M = some (2 + 2 * (cpt (spt A) (sv A) (p : Int) (sb A + 1) : Int), M) := by
  have hb5 := hI.1.2
  have hv := hI.2.2.2.2.2.2.2.1
  intro m
  induction m with
  | zero =>
    intro n b hb h1 hn
    obtain ⟨n, rfl⟩ : ∃ n', n = n' + 1 := ⟨n - 1, by omega⟩
    rw [dn_X2_freeMagic_L4, dn_X2_freeMagic_L4B]
    simp only [fGt, hR.1.2.1]
    rw [e_Let ⟨by omega, by omega⟩ (by omega), show b = sb A + 1 by omega]
  | succ m ih =>
    intro n b hb h1 hn
    obtain ⟨n, rfl⟩ : ∃ n', n = n' + 1 := ⟨n - 1, by omega⟩
    have hpt := hI.2.2.2.2.2.1 b h1 (by omega)
    have hn24 := hI.1.1
    rw [dn_X2_freeMagic_L4, dn_X2_freeMagic_L4B]
    simp only [fGt, hR.1.2.1, hR.1.2.2.1, dn_X2_freeMagic_J33]
    have hs : cpt (spt A) (sv A) (p : Int) (b + 1) = (if b ≠ 0 ∧ (b : Int) ≠ sv A ∧ spt A b = (p : Int) then 1 else 0) + cpt (spt A) (sv A) (p : Int) b := rfl
    have e := ih n (b + 1) (by omega) (by omega) (by omega)
    rw [e_Lef ⟨by omega, by omega⟩ (by omega), e_Eq ⟨by omega, by omega⟩, e_Rd b rfl (by omega), (hR.2.2.1 b h1 (by omega)).1, e_Eq ⟨by omega, by omega⟩, show ((b : Int) + 1) = ((b + 1 : Nat) : Int) by omega]
    by_cases c1 : (b : Int) = sv A
    · rw [if_pos c1, ← e, hs, if_neg (fun q => q.2.1 c1), Nat.zero_add]
    · rw [if_neg c1]
      by_cases c2 : spt A b = (p : Int)
      · rw [if_pos c2, ← e, hs, if_pos ⟨by omega, c1, c2⟩]
        congr 1
        omega
      · rw [if_neg c2, ← e, hs, if_neg (fun q => c2 q.2.2), Nat.zero_add]
/-- the magic number that a new branch at p gets -/
def newMg (A : FS) (p : Int) : Int := 2 + 2 * (cpt (spt A) (sv A) p (sb A + 1) : Int)
theorem ev_freeMagic (hR : RC P A M) (hI : AI A so) {p : Nat} (hp : p < 24) : dn_X2_freeMagic P (p : Int) M = some (newMg A (p : Int), M) := by
  have := ev_freeMagic_L hR hI hp (sb A) 600 1 (by omega) (by omega) (by have := hI.1.2; omega)
  have e : cpt (spt A) (sv A) (p : Int) 1 = 0 := rfl
  rw [e, show (2 : Int) + 2 * ((0 : Nat) : Int) = 2 from rfl, show ((1 : Nat) : Int) = 1 from rfl] at this
  exact this
theorem ev_openBranch (hR : RC P A M) (hI : AI A so) {p : Nat} (hp : p < sn A) (hb : sb A < 5) : ∃ M', dn_X2_openBranch P (p : Int) M = some (((sb A + 1 : Nat) : Int), M') ∧ RC P (fOpn A (p : Int) (newMg A (p : Int))) M' ∧ frP P M M' := by
  have h := hI.1.1
  obtain ⟨M', e1, e2, e3⟩ := ev_openWith hR hI (p := (p : Int)) (m := newMg A (p : Int)) hb
  exact ⟨M', by rw [dn_X2_openBranch, e_Cl (ev_freeMagic hR hI (by omega)), e_Cl e1], e2, e3⟩
end PH
