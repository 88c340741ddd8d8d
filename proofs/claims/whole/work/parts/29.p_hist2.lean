/-! the class's history: small writes, numbers, what a revision is kept against -/
section PH2
variable {P : Nat} {A : FS} {so : Nat → Int} {M : fMem}
theorem RC.fr {M' : fMem} (h : RC P A M) (hf : ∀ q k, P ≤ q → q ≤ P + 10 → M' q k = M q k) : RC P A M' := by
  obtain ⟨⟨h1, h2, h3, h4⟩, h5, h6, h7, h8, h9, h10, h11⟩ := h
  refine ⟨⟨?_, ?_, ?_, ?_⟩, fun r hr => ?_, fun b' hb1 hb2 => ?_, ?_, fun t' ht => ?_, fun b' hb' => ?_, fun b' hb' => ?_, fun r hr => ?_⟩
  · rw [hf _ _ (by omega) (by omega)]; exact h1
  · rw [hf _ _ (by omega) (by omega)]; exact h2
  · rw [hf _ _ (by omega) (by omega)]; exact h3
  · rw [hf _ _ (by omega) (by omega)]; exact h4
  · rw [hf _ _ (by omega) (by omega), hf _ _ (by omega) (by omega), hf _ _ (by omega) (by omega), hf _ _ (by omega) (by omega)]; exact h5 r hr
  · rw [hf _ _ (by omega) (by omega), hf _ _ (by omega) (by omega)]; exact h6 b' hb1 hb2
  · rw [hf _ _ (by omega) (by omega)]; exact h7
  · rw [hf _ _ (by omega) (by omega)]; exact h8 t' ht
  · rw [hf _ _ (by omega) (by omega)]; exact h9 b' hb'
  · rw [hf _ _ (by omega) (by omega)]; exact h10 b' hb'
  · rw [hf _ _ (by omega) (by omega)]; exact h11 r hr
theorem RC.std (h : RC P A M) (v : Int) : RC P (fStd A v) (fup M P 12 v) := by
  obtain ⟨⟨h1, h2, h3, h4⟩, h5, h6, h7, h8, h9, h10, h11⟩ := h
  have hF : ∀ q k, ¬ (q = P ∧ k = 12) → (fup M P 12 v) q k = M q k := fun q k hq => fup_ne hq
  refine ⟨⟨?_, ?_, ?_, fup_self _ _ _ _⟩, fun r hr => ?_, fun b' hb1 hb2 => ?_, ?_, fun t' ht => ?_, fun b' hb' => ?_, fun b' hb' => ?_, fun r hr => ?_⟩
  · rw [hF _ _ (by omega)]; exact h1
  · rw [hF _ _ (by omega)]; exact h2
  · rw [hF _ _ (by omega)]; exact h3
  · rw [hF _ _ (by omega), hF _ _ (by omega), hF _ _ (by omega), hF _ _ (by omega)]; exact h5 r hr
  · rw [hF _ _ (by omega), hF _ _ (by omega)]; exact h6 b' hb1 hb2
  · rw [hF _ _ (by omega)]; exact h7
  · rw [hF _ _ (by omega)]; exact h8 t' ht
  · rw [hF _ _ (by omega)]; exact h9 b' hb'
  · rw [hF _ _ (by omega)]; exact h10 b' hb'
  · rw [hF _ _ (by omega)]; exact h11 r hr
theorem RC.ven (h : RC P A M) (v : Int) : RC P (fVen A v) (fup M P 11 v) := by
  obtain ⟨⟨h1, h2, h3, h4⟩, h5, h6, h7, h8, h9, h10, h11⟩ := h
  have hF : ∀ q k, ¬ (q = P ∧ k = 11) → (fup M P 11 v) q k = M q k := fun q k hq => fup_ne hq
  refine ⟨⟨?_, ?_, fup_self _ _ _ _, ?_⟩, fun r hr => ?_, fun b' hb1 hb2 => ?_, ?_, fun t' ht => ?_, fun b' hb' => ?_, fun b' hb' => ?_, fun r hr => ?_⟩
  · rw [hF _ _ (by omega)]; exact h1
  · rw [hF _ _ (by omega)]; exact h2
  · rw [hF _ _ (by omega)]; exact h4
  · rw [hF _ _ (by omega), hF _ _ (by omega), hF _ _ (by omega), hF _ _ (by omega)]; exact h5 r hr
  · rw [hF _ _ (by omega), hF _ _ (by omega)]; exact h6 b' hb1 hb2
  · rw [hF _ _ (by omega)]; exact h7
  · rw [hF _ _ (by omega)]; exact h8 t' ht
  · rw [hF _ _ (by omega)]; exact h9 b' hb'
  · rw [hF _ _ (by omega)]; exact h10 b' hb'
  · rw [hF _ _ (by omega)]; exact h11 r hr
theorem RC.nam (h : RC P A M) (t : Nat) (v : Int) : RC P (fNam A t v) (fup M (P + 10) t v) := by
  obtain ⟨⟨h1, h2, h3, h4⟩, h5, h6, h7, h8, h9, h10, h11⟩ := h
  have hF : ∀ q k, ¬ (q = P + 10 ∧ k = t) → (fup M (P + 10) t v) q k = M q k := fun q k hq => fup_ne hq
  refine ⟨⟨?_, ?_, ?_, ?_⟩, fun r hr => ?_, fun b' hb1 hb2 => ?_, ?_, fun t' ht => ?_, fun b' hb' => ?_, fun b' hb' => ?_, fun r hr => ?_⟩
  · rw [hF _ _ (by omega)]; exact h1
  · rw [hF _ _ (by omega)]; exact h2
  · rw [hF _ _ (by omega)]; exact h3
  · rw [hF _ _ (by omega)]; exact h4
  · rw [hF _ _ (by omega), hF _ _ (by omega), hF _ _ (by omega), hF _ _ (by omega)]; exact h5 r hr
  · rw [hF _ _ (by omega), hF _ _ (by omega)]; exact h6 b' hb1 hb2
  · rw [hF _ _ (by omega)]; exact h7
  · show _ = pup (snm A) t v t'
    by_cases htt : t' = t
    · subst htt; rw [fup_self, pup_s]
    · rw [hF _ _ (by omega), pup_n htt]; exact h8 t' ht
  · rw [hF _ _ (by omega)]; exact h9 b' hb'
  · rw [hF _ _ (by omega)]; exact h10 b' hb'
  · rw [hF _ _ (by omega)]; exact h11 r hr
theorem ev_openVendor (hR : RC P A M) (hI : AI A so) (hb : sb A < 5) : ∃ M', dn_X2_openVendorBranch P M = some (0, M') ∧ RC P (fVen (fOpn A 0 1) ((sb A + 1 : Nat) : Int)) M' ∧ frP P M M' := by
  obtain ⟨M1, e1, e2, e3⟩ := ev_openWith hR hI (p := 0) (m := 1) hb
  refine ⟨fup M1 P 11 ((sb A + 1 : Nat) : Int), ?_, e2.ven _, fun q k hq => by rw [fup_ne (by omega)]; exact e3 q k hq⟩
  rw [dn_X2_openVendorBranch, e_Cl e1]
  rfl
/-! numbers -/
def dB (A : FS) : Nat → Nat → Nat
  | 0, _ => 0
  | k + 1, b => if b = 0 then 0 else dB A k (sho A (spt A b).toNat).toNat + 1
theorem dB_st (hI : AI A so) : ∀ (k b : Nat), b ≤ k → b ≤ sb A → dB A (k + 1) b = dB A k b := by
  intro k
  induction k with
  | zero =>
    intro b hb _
    have : b = 0 := by omega
    subst this
    rfl
  | succ k ih =>
    intro b hb hs
    show (if b = 0 then 0 else dB A (k + 1) (sho A (spt A b).toNat).toNat + 1) = (if b = 0 then 0 else dB A k (sho A (spt A b).toNat).toNat + 1)
    by_cases h0 : b = 0
    · rw [if_pos h0, if_pos h0]
    · have hp := hI.2.2.2.2.2.1 b (by omega) hs
      have hh := hI.2.2.2.1 (spt A b).toNat (by omega)
      rw [if_neg h0, if_neg h0, ih _ (by omega) (by omega)]
/-- how deep a branch lies -/
def dpth (A : FS) (b : Nat) : Nat := dB A 5 b
theorem dpth_0 (A : FS) : dpth A 0 = 0 := rfl
theorem dpth_s (hI : AI A so) {b : Nat} (h1 : 1 ≤ b) (hb : b ≤ sb A) : dpth A b = dpth A (sho A (spt A b).toNat).toNat + 1 := by
  have h5 := hI.1.2
  have hp := hI.2.2.2.2.2.1 b h1 hb
  have hh := hI.2.2.2.1 (spt A b).toNat (by omega)
  show (if b = 0 then 0 else dB A 4 (sho A (spt A b).toNat).toNat + 1) = dB A 5 _ + 1
  rw [if_neg (by omega), dB_st hI 4 _ (by omega) (by omega)]
theorem dpth_le (hI : AI A so) : ∀ b, b ≤ sb A → dpth A b ≤ b := by
  intro b
  induction b using Nat.strongRecOn with
  | _ b ih =>
    intro hb
    by_cases h0 : b = 0
    · subst h0; exact Nat.le_refl _
    · have hp := hI.2.2.2.2.2.1 b (by omega) hb
      have hh := hI.2.2.2.1 (spt A b).toNat (by omega)
      rw [dpth_s hI (by omega) hb]
      have := ih (sho A (spt A b).toNat).toNat (by omega) (by omega)
      omega
theorem ev_depth_L (hR : RC P A M) (hI : AI A so) (a1 : Int) : ∀ (m n d b i : Nat), i + m = 6 → m < n → b ≤ m → b ≤ sb A → d + m < 100 → dn_X2_depth_L12 P a1 n (d : Int) (b : Int) (i : Int) M = some (((d + dpth A b : Nat) : Int), M) := by
  have h5 := hI.1
  intro m
  induction m with
  | zero =>
    intro n d b i hi hn hb hs hd
    obtain ⟨n, rfl⟩ : ∃ n', n = n' + 1 := ⟨n - 1, by omega⟩
    have : b = 0 := by omega
    subst this
    rw [dn_X2_depth_L12, dn_X2_depth_L12B, e_Let ⟨by omega, by omega⟩ (by omega), dpth_0]
    rfl
  | succ m ih =>
    intro n d b i hi hn hb hs hd
    obtain ⟨n, rfl⟩ : ∃ n', n = n' + 1 := ⟨n - 1, by omega⟩
    rw [dn_X2_depth_L12, dn_X2_depth_L12B, e_Lef ⟨by omega, by omega⟩ (by omega), e_Eq ⟨by omega, by omega⟩]
    by_cases h0 : b = 0
    · subst h0
      rw [if_pos (by omega), dpth_0]
      rfl
    · have hp := hI.2.2.2.2.2.1 b (by omega) hs
      have hh := hI.2.2.2.1 (spt A b).toNat (by omega)
      rw [if_neg (by omega), e_Rd b rfl (by omega), (hR.2.2.1 b (by omega) (by omega)).1, e_Rd (spt A b).toNat (by omega) (by omega), (hR.2.1 _ (by omega)).2.2.1, show sho A (spt A b).toNat = ((sho A (spt A b).toNat).toNat : Int) by omega, show ((d : Int) + 1) = ((d + 1 : Nat) : Int) by omega, show ((i : Int) + 1) = ((i + 1 : Nat) : Int) by omega, ih n (d + 1) _ (i + 1) (by omega) (by omega) (by omega) (by omega) (by omega), dpth_s hI (by omega) hs]
      congr 2
      omega
theorem ev_depth (hR : RC P A M) (hI : AI A so) {r : Nat} (hr : r < sn A) : dn_X2_depth P (r : Int) M = some ((dpth A (sho A r).toNat : Int), M) := by
  have h5 := hI.1
  have hh := hI.2.2.2.1 r hr
  rw [dn_X2_depth, e_Rd r rfl (by omega), (hR.2.1 r (by omega)).2.2.1]
  have := ev_depth_L hR hI (r : Int) 5 600 0 (sho A r).toNat 1 (by omega) (by omega) (by omega) (by omega) (by omega)
  rw [Nat.zero_add, show ((0 : Nat) : Int) = 0 from rfl, show ((1 : Nat) : Int) = 1 from rfl, show ((sho A r).toNat : Int) = sho A r by omega] at this
  exact this
/-- k points up from a revision -/
def upA (A : FS) : Nat → Nat → Nat
  | 0, r => r
  | k + 1, r => upA A k (spt A (sho A r).toNat).toNat
def numA (A : FS) (r : Nat) (part : Nat) : Int :=
  if dpth A (sho A r).toNat < part / 2 then 0
  else if part % 2 = 0 then (if sho A (upA A (dpth A (sho A r).toNat - part / 2) r) = 0 then 1 else smg A (sho A (upA A (dpth A (sho A r).toNat - part / 2) r)).toNat)
  else srk A (upA A (dpth A (sho A r).toNat - part / 2) r)
theorem up_in (hI : AI A so) : ∀ (k r : Nat), r < sn A → k ≤ dpth A (sho A r).toNat → upA A k r < sn A := by
  intro k
  induction k with
  | zero => intro r hr _; exact hr
  | succ k ih =>
    intro r hr hk
    have hh := hI.2.2.2.1 r hr
    have h1 : 1 ≤ (sho A r).toNat := by
      apply Classical.byContradiction
      intro q
      rw [show (sho A r).toNat = 0 by omega, dpth_0] at hk
      omega
    have hp := hI.2.2.2.2.2.1 _ h1 (by omega)
    have hs := dpth_s hI h1 (by omega)
    exact ih _ (by omega) (by omega)
theorem ev_numPart_L (hR : RC P A M) (hI : AI A so) (a1 a2 a3 : Int) (lv : Nat) (hlv : lv < 1000) (x : Int → Int → fMem → fOp) : ∀ (m n r : Nat), m < n → r < sn A → m ≤ dpth A (sho A r).toNat → dn_X2_numberPart_L25 P a1 a2 a3 (lv : Int) x n (r : Int) ((lv + m : Nat) : Int) M = x (upA A m r : Int) (lv : Int) M := by
  have h5 := hI.1
  intro m
  induction m with
  | zero =>
    intro n r hn hr hm
    obtain ⟨n, rfl⟩ : ∃ n', n = n' + 1 := ⟨n - 1, by omega⟩
    rw [dn_X2_numberPart_L25, dn_X2_numberPart_L25B, e_Let ⟨by omega, by omega⟩ (by omega)]
    rfl
  | succ m ih =>
    intro n r hn hr hm
    obtain ⟨n, rfl⟩ : ∃ n', n = n' + 1 := ⟨n - 1, by omega⟩
    have hh := hI.2.2.2.1 r hr
    have hd5 := dpth_le hI (sho A r).toNat (by omega)
    have h1 : 1 ≤ (sho A r).toNat := by omega
    have hp := hI.2.2.2.2.2.1 _ h1 (by omega)
    have hs := dpth_s hI h1 (by omega)
    rw [dn_X2_numberPart_L25, dn_X2_numberPart_L25B, e_Lef ⟨by omega, by omega⟩ (by omega), e_Rd r rfl (by omega), (hR.2.1 r (by omega)).2.2.1, e_Rd (sho A r).toNat (by omega) (by omega), (hR.2.2.1 _ h1 (by omega)).1, show ((lv + (m + 1) : Nat) : Int) + -1 = ((lv + m : Nat) : Int) by omega, show spt A (sho A r).toNat = ((spt A (sho A r).toNat).toNat : Int) by omega, ih n _ (by omega) (by omega) (by omega)]
    rfl
theorem ev_numberPart (hR : RC P A M) (hI : AI A so) {r part : Nat} (hr : r < sn A) (hp : part ≤ 2147483647) : dn_X2_numberPart P (r : Int) (part : Int) M = some (numA A r part, M) := by
  have h5 := hI.1
  have hh := hI.2.2.2.1 r hr
  have hd5 := dpth_le hI (sho A r).toNat (by omega)
  rw [dn_X2_numberPart, e_Cl (ev_depth hR hI hr), e_DvI ⟨⟨by omega, by omega⟩, by omega⟩, e_Le ⟨by omega, by omega⟩]
  unfold numA
  generalize hD : dpth A (sho A r).toNat = D at hd5 ⊢
  by_cases h1 : D < part / 2
  · rw [if_neg (by omega), if_pos h1]
  · rw [if_pos (by omega), if_neg h1, show (part : Int) / 2 = ((part / 2 : Nat) : Int) by omega]
    have e := ev_numPart_L hR hI (r : Int) (part : Int) (D : Int) (part / 2) (by omega) (fun y6 y7 M8 => fRmI (part : Int) 2 (fun x9 => fEq x9 0 (fRd M8 (P + 3) 24 y6 (fun x11 => fRd M8 (P + 7) 6 x11 (fun x12 => some (x12, M8)))) (fRd M8 (P + 4) 24 y6 (fun x10 => some (x10, M8))))) (D - part / 2) 600 r (by omega) hr (by omega)
    rw [show ((part / 2 + (D - part / 2) : Nat) : Int) = (D : Int) by omega] at e
    rw [e]
    have hu := up_in hI (D - part / 2) r hr (by omega)
    have hho := hI.2.2.2.1 _ hu
    rw [e_RmI ⟨⟨by omega, by omega⟩, by omega⟩, e_Eq ⟨by omega, by omega⟩]
    by_cases h2 : part % 2 = 0
    · rw [if_pos (by omega), if_pos h2, e_Rd (upA A (D - part / 2) r) rfl (by omega), (hR.2.1 _ (by omega)).2.2.1, e_Rd (sho A (upA A (D - part / 2) r)).toNat (by omega) (by omega)]
      by_cases h3 : sho A (upA A (D - part / 2) r) = 0
      · rw [if_pos h3, h3]
        rw [show (0 : Int).toNat = 0 from rfl, hR.2.2.2.1]
      · rw [if_neg h3, (hR.2.2.1 _ (by omega) (by omega)).2]
    · rw [if_neg (by omega), if_neg h2, e_Rd (upA A (D - part / 2) r) rfl (by omega), (hR.2.1 _ (by omega)).2.2.2]
/-! what a revision is kept against -/
def frst (p : Nat → Bool) : Nat → Nat → Int
  | 0, _ => -1
  | m + 1, k => if p k = true then (k : Int) else frst p m (k + 1)
theorem frst_in (p : Nat → Bool) : ∀ m k, (frst p m k = -1 ∧ ∀ j, k ≤ j → j < k + m → p j = false) ∨ ∃ x : Nat, frst p m k = (x : Int) ∧ k ≤ x ∧ x < k + m ∧ p x = true ∧ ∀ j, k ≤ j → j < x → p j = false := by
  intro m
  induction m with
  | zero => intro k; exact Or.inl ⟨rfl, fun j h1 h2 => by omega⟩
  | succ m ih =>
    intro k
    by_cases h : p k = true
    · right
      refine ⟨k, ?_, by omega, by omega, h, fun j h1 h2 => by omega⟩
      show (if p k = true then (k : Int) else _) = _
      rw [if_pos h]
    · have e : frst p (m + 1) k = frst p m (k + 1) := by
        show (if p k = true then (k : Int) else _) = _
        rw [if_neg h]
      have hf : p k = false := by simpa using h
      rw [e]
      rcases ih (k + 1) with ⟨h1, h2⟩ | ⟨x, h1, h2, h3, h4, h5⟩
      · left
        refine ⟨h1, fun j q1 q2 => ?_⟩
        by_cases hj : j = k
        · subst hj; exact hf
        · exact h2 j (by omega) (by omega)
      · right
        refine ⟨x, h1, by omega, by omega, h4, fun j q1 q2 => ?_⟩
        by_cases hj : j = k
        · subst hj; exact hf
        · exact h5 j (by omega) q2
theorem ev_next_L (hR : RC P A M) (hI : AI A so) (a1 : Int) : ∀ (m n k : Nat), k + m = sn A → m < n → dn_X2_nextOnTrunk_L4 P a1 n (k : Int) M = some (frst (fun x => decide (sho A x = 0)) m k, M) := by
  have h5 := hI.1
  intro m
  induction m with
  | zero =>
    intro n k hk hn
    obtain ⟨n, rfl⟩ : ∃ n', n = n' + 1 := ⟨n - 1, by omega⟩
    rw [dn_X2_nextOnTrunk_L4, dn_X2_nextOnTrunk_L4B]
    simp only [fGt, hR.1.1]
    rw [e_Let ⟨by omega, by omega⟩ (by omega)]
    rfl
  | succ m ih =>
    intro n k hk hn
    obtain ⟨n, rfl⟩ : ∃ n', n = n' + 1 := ⟨n - 1, by omega⟩
    have hh := hI.2.2.2.1 k (by omega)
    rw [dn_X2_nextOnTrunk_L4, dn_X2_nextOnTrunk_L4B]
    simp only [fGt, hR.1.1]
    rw [e_Lef ⟨by omega, by omega⟩ (by omega), e_Rd k rfl (by omega), (hR.2.1 k (by omega)).2.2.1, e_Eq ⟨by omega, by omega⟩]
    show _ = some ((if decide (sho A k = 0) = true then (k : Int) else frst (fun x => decide (sho A x = 0)) m (k + 1)), M)
    by_cases h0 : sho A k = 0
    · rw [if_pos h0, if_pos (by simp [h0])]
    · rw [if_neg h0, if_neg (by simp [h0]), show ((k : Int) + 1) = ((k + 1 : Nat) : Int) by omega]
      exact ih n (k + 1) (by omega) (by omega)
def keptA (A : FS) (r : Nat) : Int := if sho A r = 0 then frst (fun x => decide (sho A x = 0)) (sn A - (r + 1)) (r + 1) else tipOf A (sho A r).toNat r
theorem ev_keptAgainst (hR : RC P A M) (hI : AI A so) {r : Nat} (hr : r < sn A) : dn_X2_keptAgainst P (r : Int) M = some (keptA A r, M) := by
  have h5 := hI.1
  have hh := hI.2.2.2.1 r hr
  rw [dn_X2_keptAgainst, e_Rd r rfl (by omega), (hR.2.1 r (by omega)).2.2.1, e_Eq ⟨by omega, by omega⟩]
  unfold keptA
  by_cases h0 : sho A r = 0
  · rw [if_pos h0, if_pos h0, dn_X2_nextOnTrunk, show ((r : Int) + 1) = ((r + 1 : Nat) : Int) by omega, e_Cl (ev_next_L hR hI (r : Int) (sn A - (r + 1)) 600 (r + 1) (by omega) (by omega))]
  · rw [if_neg h0, if_neg h0, e_Rd r rfl (by omega), hR.2.2.2.2.2.2.2 r hr]
end PH2
