/-! the reference's file methods: magic numbers, numbers, what a revision is kept against -/
theorem cpt_mono (pt : Nat → Int) (v p : Int) : ∀ {m n : Nat}, m ≤ n → cpt pt v p m ≤ cpt pt v p n := by
  intro m n h
  induction h with
  | refl => exact Nat.le_refl _
  | step _ ih =>
    rename_i n _
    show cpt pt v p m ≤ (if n ≠ 0 ∧ (n : Int) ≠ v ∧ pt n = p then 1 else 0) + cpt pt v p n
    omega
section PM2
variable {f : Nat} {A : FS} {so : Nat → Int} {M : fMem}
theorem ev_fm6_1 (hf : f < 4) (hR : RM f A M) (hI : AI A so) {p : Nat} (hp : p < 24) (a4 : Int) (x : Int → Int → fMem → fOp) : ∀ (m n b : Nat), b + m = sb A + 1 → 1 ≤ b → m < n → dn_X6_freeMagic_L15 (f : Int) (p : Int) a4 x n (2 + 2 * (cpt (spt A) (sv A) (p : Int) b : Int)) (b : Int) M = x (newMg A (p : Int)) ((sb A + 1 : Nat) : Int) M := by
  have hb5 := hI.1
  intro m
  induction m with
  | zero =>
    intro n b hb h1 hn
    obtain ⟨n, rfl⟩ : ∃ n', n = n' + 1 := ⟨n - 1, by omega⟩
    rw [dn_X6_freeMagic_L15, dn_X6_freeMagic_L15B, e_Rd f rfl (by omega), hR.1.2.1, e_Ltt ⟨by omega, by omega⟩ (by omega), show b = sb A + 1 by omega]
    rfl
  | succ m ih =>
    intro n b hb h1 hn
    obtain ⟨n, rfl⟩ : ∃ n', n = n' + 1 := ⟨n - 1, by omega⟩
    have hpt := hI.2.2.2.2.2.1 b h1 (by omega)
    have hmg := hI.2.2.2.2.2.2.1 b h1 (by omega)
    have hcb := cpt_le (spt A) (sv A) (p : Int) b
    have hcb2 := cpt_le (spt A) (sv A) (spt A b) b
    have hm12 : smg A b = 1 ∨ smg A b = 2 * (cpt (spt A) (sv A) (spt A b) b : Int) + 2 := by
      rw [hmg]
      unfold mgOf
      split
      · exact Or.inl rfl
      · exact Or.inr rfl
    have hs : cpt (spt A) (sv A) (p : Int) (b + 1) = (if b ≠ 0 ∧ (b : Int) ≠ sv A ∧ spt A b = (p : Int) then 1 else 0) + cpt (spt A) (sv A) (p : Int) b := rfl
    have e := ih n (b + 1) (by omega) (by omega) (by omega)
    rw [dn_X6_freeMagic_L15, dn_X6_freeMagic_L15B, e_Rd f rfl (by omega), hR.1.2.1, e_Ltf ⟨by omega, by omega⟩ (by omega), e_Rd (6 * f + b) (by omega) (by omega), (hR.2.2.1 b h1 (by omega)).1, e_Eq ⟨by omega, by omega⟩, e_Rd (6 * f + b) (by omega) (by omega), (hR.2.2.1 b h1 (by omega)).2, e_Eq ⟨by omega, by omega⟩]
    simp only [dn_X6_freeMagic_J65, dn_X6_freeMagic_J64]
    rw [show ((b : Int) + 1) = ((b + 1 : Nat) : Int) by omega, ← e, hs]
    by_cases c2 : spt A b = (p : Int)
    · rw [if_pos c2, hmg]
      unfold mgOf
      rw [c2]
      by_cases c1 : (b : Int) = sv A
      · rw [if_pos c1, if_neg (by omega), if_neg (fun q => q.2.1 c1), Nat.zero_add]
      · rw [if_neg c1, if_pos (by omega), if_pos ⟨by omega, c1, rfl⟩]
        congr 1
        omega
    · rw [if_neg c2, if_neg (fun q => c2 q.2.2), Nat.zero_add]
theorem ev_fm6_2 (hf : f < 4) (hR : RM f A M) (hI : AI A so) {p : Nat} (hp : p < 24) (a4 : Int) (x : Int → Int → fMem → fOp) : ∀ (m n b : Nat), b + m = sb A + 1 → 1 ≤ b → m < n → dn_X6_freeMagic_L15 (f : Int) (p : Int) a4 x n (newMg A (p : Int)) (b : Int) M = x (newMg A (p : Int)) ((sb A + 1 : Nat) : Int) M := by
  have hb5 := hI.1
  have hle := cpt_le (spt A) (sv A) (p : Int) (sb A + 1)
  have hT : newMg A (p : Int) = 2 + 2 * (cpt (spt A) (sv A) (p : Int) (sb A + 1) : Int) := rfl
  intro m
  induction m with
  | zero =>
    intro n b hb h1 hn
    obtain ⟨n, rfl⟩ : ∃ n', n = n' + 1 := ⟨n - 1, by omega⟩
    rw [dn_X6_freeMagic_L15, dn_X6_freeMagic_L15B, e_Rd f rfl (by omega), hR.1.2.1, e_Ltt ⟨by omega, by omega⟩ (by omega), show b = sb A + 1 by omega]
  | succ m ih =>
    intro n b hb h1 hn
    obtain ⟨n, rfl⟩ : ∃ n', n = n' + 1 := ⟨n - 1, by omega⟩
    have hpt := hI.2.2.2.2.2.1 b h1 (by omega)
    have hmg := hI.2.2.2.2.2.2.1 b h1 (by omega)
    have hcb2 := cpt_le (spt A) (sv A) (spt A b) b
    have hm12 : smg A b = 1 ∨ ((b : Int) ≠ sv A ∧ smg A b = 2 * (cpt (spt A) (sv A) (spt A b) b : Int) + 2) := by
      rw [hmg]
      unfold mgOf
      split
      · exact Or.inl rfl
      · rename_i h; exact Or.inr ⟨h, rfl⟩
    have hs : cpt (spt A) (sv A) (p : Int) (b + 1) = (if b ≠ 0 ∧ (b : Int) ≠ sv A ∧ spt A b = (p : Int) then 1 else 0) + cpt (spt A) (sv A) (p : Int) b := rfl
    have hmo := cpt_mono (spt A) (sv A) (p : Int) (show b + 1 ≤ sb A + 1 by omega)
    have e := ih n (b + 1) (by omega) (by omega) (by omega)
    rw [dn_X6_freeMagic_L15, dn_X6_freeMagic_L15B, e_Rd f rfl (by omega), hR.1.2.1, e_Ltf ⟨by omega, by omega⟩ (by omega), e_Rd (6 * f + b) (by omega) (by omega), (hR.2.2.1 b h1 (by omega)).1, e_Eq ⟨by omega, by omega⟩, e_Rd (6 * f + b) (by omega) (by omega), (hR.2.2.1 b h1 (by omega)).2, e_Eq ⟨by omega, by omega⟩]
    simp only [dn_X6_freeMagic_J65, dn_X6_freeMagic_J64]
    rw [show ((b : Int) + 1) = ((b + 1 : Nat) : Int) by omega, e]
    by_cases c2 : spt A b = (p : Int)
    · rw [if_pos c2, if_neg]
      rw [c2] at hm12
      rcases hm12 with h | ⟨h, h'⟩
      · omega
      · rw [if_pos ⟨by omega, h, c2⟩] at hs
        omega
    · rw [if_neg c2]
theorem ev_fm6_L (hf : f < 4) (hR : RM f A M) (hI : AI A so) {p : Nat} (hp : p < 24) : ∀ (m n r : Nat), r + m = 6 → 1 ≤ r → m < n → dn_X6_freeMagic_L5 (f : Int) (p : Int) n (newMg A (p : Int)) (r : Int) M = some (newMg A (p : Int), M) := by
  have hb5 := hI.1
  intro m
  induction m with
  | zero =>
    intro n r hr h1 hn
    obtain ⟨n, rfl⟩ : ∃ n', n = n' + 1 := ⟨n - 1, by omega⟩
    rw [dn_X6_freeMagic_L5, dn_X6_freeMagic_L5B, e_Let ⟨by omega, by omega⟩ (by omega)]
  | succ m ih =>
    intro n r hr h1 hn
    obtain ⟨n, rfl⟩ : ∃ n', n = n' + 1 := ⟨n - 1, by omega⟩
    have e := ev_fm6_2 hf hR hI hp (r : Int) (fun y4 y5 M6 => dn_X6_freeMagic_L5 (f : Int) (p : Int) n y4 ((r : Int) + 1) M6) (sb A) 600 1 (by omega) (by omega) (by omega)
    rw [show ((1 : Nat) : Int) = 1 from rfl] at e
    rw [dn_X6_freeMagic_L5, dn_X6_freeMagic_L5B, e_Lef ⟨by omega, by omega⟩ (by omega), e, show ((r : Int) + 1) = ((r + 1 : Nat) : Int) by omega]
    exact ih n (r + 1) (by omega) (by omega) (by omega)
theorem ev_freeMagic6 (hf : f < 4) (hR : RM f A M) (hI : AI A so) {p : Nat} (hp : p < 24) : dn_X6_freeMagic (f : Int) (p : Int) M = some (newMg A (p : Int), M) := by
  have hb5 := hI.1
  have e := ev_fm6_1 hf hR hI hp 0 (fun y4 y5 M6 => dn_X6_freeMagic_L5 (f : Int) (p : Int) 599 y4 (0 + 1) M6) (sb A) 600 1 (by omega) (by omega) (by omega)
  have e0 : cpt (spt A) (sv A) (p : Int) 1 = 0 := rfl
  rw [e0, show (2 : Int) + 2 * ((0 : Nat) : Int) = 2 from rfl, show ((1 : Nat) : Int) = 1 from rfl] at e
  rw [dn_X6_freeMagic, dn_X6_freeMagic_L5, dn_X6_freeMagic_L5B, e_Lef ⟨by omega, by omega⟩ (by omega), e]
  exact ev_fm6_L hf hR hI hp 5 599 1 (by omega) (by omega) (by omega)
theorem ev_firstOfTrunk6 (hf : f < 4) (hR : RM f A M) (hI : AI A so) (hn : 0 < sn A) : dn_X6_firstOfTrunk (f : Int) M = some (0, M) := by
  have h5 := hI.1
  have h0 := hI.2.2.2.2.2.2.2.2.2.2.1 hn
  rw [dn_X6_firstOfTrunk, dn_X6_firstOfTrunk_L2, dn_X6_firstOfTrunk_L2B, e_Rd f rfl (by omega), hR.1.1, e_Lef ⟨by omega, by omega⟩ (by omega), e_Rd (24 * f + 0) (by omega) (by omega), (hR.2.1 0 (by omega)).2.2.1, e_Eqt ⟨by omega, by omega⟩ h0]
theorem ev_parts6_L (hf : f < 4) (hR : RM f A M) (hI : AI A so) (a2 : Int) : ∀ (m n c r : Nat), m < n → r < sn A → (sho A r).toNat ≤ m → c + 2 * m < 1000 → dn_X6_parts_L5 (f : Int) a2 n (c : Int) (r : Int) M = some (((c + 2 * dpth A (sho A r).toNat : Nat) : Int), M) := by
  have h5 := hI.1
  intro m
  induction m with
  | zero =>
    intro n c r hn hr hm hc
    obtain ⟨n, rfl⟩ : ∃ n', n = n' + 1 := ⟨n - 1, by omega⟩
    have hh := hI.2.2.2.1 r hr
    rw [dn_X6_parts_L5, dn_X6_parts_L5B, e_Rd (24 * f + r) (by omega) (by omega), (hR.2.1 r (by omega)).2.2.1, e_Let ⟨by omega, by omega⟩ (by omega), show (sho A r).toNat = 0 by omega, dpth_0]
    rfl
  | succ m ih =>
    intro n c r hn hr hm hc
    obtain ⟨n, rfl⟩ : ∃ n', n = n' + 1 := ⟨n - 1, by omega⟩
    have hh := hI.2.2.2.1 r hr
    rw [dn_X6_parts_L5, dn_X6_parts_L5B, e_Rd (24 * f + r) (by omega) (by omega), (hR.2.1 r (by omega)).2.2.1, e_Le ⟨by omega, by omega⟩]
    by_cases h0 : sho A r ≤ 0
    · rw [if_pos h0, show (sho A r).toNat = 0 by omega, dpth_0]
      rfl
    · have h1 : 1 ≤ (sho A r).toNat := by omega
      have hp := hI.2.2.2.2.2.1 _ h1 (by omega)
      have hh2 := hI.2.2.2.1 (spt A (sho A r).toNat).toNat (by omega)
      rw [if_neg h0, e_Rd (24 * f + r) (by omega) (by omega), (hR.2.1 r (by omega)).2.2.1, e_Rd (6 * f + (sho A r).toNat) (by omega) (by omega), (hR.2.2.1 _ h1 (by omega)).1, show spt A (sho A r).toNat = ((spt A (sho A r).toNat).toNat : Int) by omega, show ((c : Int) + 2) = ((c + 2 : Nat) : Int) by omega, ih n (c + 2) _ (by omega) (by omega) (by omega) (by omega), dpth_s hI h1 (by omega)]
      congr 2
      omega
theorem ev_parts6 (hf : f < 4) (hR : RM f A M) (hI : AI A so) {r : Nat} (hr : r < sn A) : dn_X6_parts (f : Int) (r : Int) M = some (((2 + 2 * dpth A (sho A r).toNat : Nat) : Int), M) := by
  have h5 := hI.1
  have hh := hI.2.2.2.1 r hr
  exact ev_parts6_L hf hR hI (r : Int) 5 600 2 r (by omega) hr (by omega) (by omega)
theorem ev_number6_L (hf : f < 4) (hR : RM f A M) (hI : AI A so) (a2 : Int) {part : Nat} (hp : part ≤ 2147483647) (x : Int → Int → fMem → fOp) (hlv : part / 2 < 1000) : ∀ (m n r : Nat), m < n → r < sn A → m ≤ dpth A (sho A r).toNat → dn_X6_number_L34 (f : Int) a2 (part : Int) x n ((2 + 2 * (part / 2 + m) : Nat) : Int) (r : Int) M = x ((2 + 2 * (part / 2) : Nat) : Int) (upA A m r : Int) M := by
  have h5 := hI.1
  intro m
  induction m with
  | zero =>
    intro n r hn hr hm
    obtain ⟨n, rfl⟩ : ∃ n', n = n' + 1 := ⟨n - 1, by omega⟩
    rw [dn_X6_number_L34, dn_X6_number_L34B, e_Let ⟨by omega, by omega⟩ (by omega)]
    rfl
  | succ m ih =>
    intro n r hn hr hm
    obtain ⟨n, rfl⟩ : ∃ n', n = n' + 1 := ⟨n - 1, by omega⟩
    have hh := hI.2.2.2.1 r hr
    have hd5 := dpth_le hI (sho A r).toNat (by omega)
    have h1 : 1 ≤ (sho A r).toNat := by omega
    have hpp := hI.2.2.2.2.2.1 _ h1 (by omega)
    have hs := dpth_s hI h1 (by omega)
    rw [dn_X6_number_L34, dn_X6_number_L34B, e_Lef ⟨by omega, by omega⟩ (by omega), e_Rd (24 * f + r) (by omega) (by omega), (hR.2.1 r (by omega)).2.2.1, e_Rd (6 * f + (sho A r).toNat) (by omega) (by omega), (hR.2.2.1 _ h1 (by omega)).1, show ((2 + 2 * (part / 2 + (m + 1)) : Nat) : Int) + -2 = ((2 + 2 * (part / 2 + m) : Nat) : Int) by omega, show spt A (sho A r).toNat = ((spt A (sho A r).toNat).toNat : Int) by omega, ih n _ (by omega) (by omega) (by omega)]
    rfl
theorem ev_noRevision6 (hf : f < 4) (hR : RM f A M) (hI : AI A so) {r : Int} (hr : InI r) : dn_X6_noRevision (f : Int) r M = some (b2 (¬ (0 ≤ r ∧ r < (sn A : Int))), M) := by
  have h5 := hI.1
  have hb : ∀ (v w : Int), InI v → InI w → dn_X6_below v w M = some (b2 (0 ≤ v ∧ v < w), M) := by
    intro v w hv hw
    rw [dn_X6_below, e_Lt ⟨hv, by omega⟩, e_Le ⟨hw, hv⟩, fRz_0, fRz_1]
    by_cases h1 : v < 0
    · rw [if_pos h1, b2_f (by omega)]
    · rw [if_neg h1]
      by_cases h2 : w ≤ v
      · rw [if_pos h2, b2_f (by omega)]
      · rw [if_neg h2, b2_t (by omega)]
  rw [dn_X6_noRevision, e_Cl (hb _ _ (by omega) (by omega)), fEq_b2, if_pos (by omega), e_Rd f rfl (by omega), hR.1.1, e_Cl (hb _ _ hr (by omega)), fEq_b2]
  simp only [dn_X6_noRevision_J21]
  rw [fRz_0, fRz_1]
  by_cases h : 0 ≤ r ∧ r < (sn A : Int)
  · rw [if_pos h, b2_f (fun q => q h)]
  · rw [if_neg h, b2_t h]
theorem ev_number6 (hf : f < 4) (hR : RM f A M) (hI : AI A so) {r : Int} {i : Int} (hr : InI r) (hi : InI i) : dn_X6_number (f : Int) r i M = some (if 0 ≤ r ∧ r < (sn A : Int) ∧ 0 ≤ i then numA A r.toNat i.toNat else -1, M) := by
  have h5 := hI.1
  rw [dn_X6_number, e_Cl (ev_noRevision6 hf hR hI hr), fEq_b2]
  by_cases h : 0 ≤ r ∧ r < (sn A : Int)
  · rw [if_neg (fun q => q h), e_Le ⟨by omega, hi⟩]
    by_cases h1 : 0 ≤ i
    · rw [if_pos h1, if_pos ⟨h.1, h.2, h1⟩]
      obtain ⟨r, rfl⟩ := Int.eq_ofNat_of_zero_le h.1
      obtain ⟨part, rfl⟩ := Int.eq_ofNat_of_zero_le h1
      have hrn : r < sn A := by omega
      have hh := hI.2.2.2.1 r hrn
      have hd5 := dpth_le hI (sho A r).toNat (by omega)
      rw [e_Cl (ev_parts6 hf hR hI hrn), e_Lt ⟨by omega, by omega⟩, Int.toNat_natCast, Int.toNat_natCast]
      unfold numA
      generalize hD : dpth A (sho A r).toNat = D at hd5 ⊢
      by_cases h2 : D < part / 2
      · rw [if_neg (by omega), if_pos h2]
      · rw [if_pos (by omega), if_neg h2]
        have e := ev_number6_L hf hR hI (r : Int) (part := part) (by omega) (fun y7 y8 M9 => fRd M9 119 96 ((24 * (f : Int)) + y8) (fun x10 => fRmI (part : Int) 2 (fun x11 => fEq x11 1 (fRd M9 120 96 ((24 * (f : Int)) + y8) (fun x13 => some (x13, M9))) (fEq x10 0 (some (1, M9)) (fRd M9 123 24 ((6 * (f : Int)) + x10) (fun x12 => some (x12, M9))))))) (by omega) (D - part / 2) 600 r (by omega) hrn (by omega)
        rw [show ((2 + 2 * (part / 2 + (D - part / 2)) : Nat) : Int) = ((2 + 2 * D : Nat) : Int) by omega] at e
        rw [e]
        have hu := up_in hI (D - part / 2) r hrn (by omega)
        have hho := hI.2.2.2.1 _ hu
        rw [e_Rd (24 * f + upA A (D - part / 2) r) (by omega) (by omega), (hR.2.1 _ (by omega)).2.2.1, e_RmI ⟨⟨by omega, by omega⟩, by omega⟩, e_Eq ⟨by omega, by omega⟩]
        by_cases h3 : part % 2 = 0
        · rw [if_neg (by omega), if_pos h3, e_Eq ⟨by omega, by omega⟩]
          by_cases h4 : sho A (upA A (D - part / 2) r) = 0
          · rw [if_pos h4, if_pos h4]
          · rw [if_neg h4, if_neg h4, e_Rd (6 * f + (sho A (upA A (D - part / 2) r)).toNat) (by omega) (by omega), (hR.2.2.1 _ (by omega) (by omega)).2]
        · rw [if_pos (by omega), if_neg h3, e_Rd (24 * f + upA A (D - part / 2) r) (by omega) (by omega), (hR.2.1 _ (by omega)).2.2.2]
    · rw [if_neg h1, if_neg (fun q => h1 q.2.2)]
  · rw [if_pos h, if_neg (fun q => h ⟨q.1, q.2.1⟩)]
theorem ev_revAt6_L (hf : f < 4) (hR : RM f A M) (hI : AI A so) {b k : Int} (hb : InI b) (hk : InI k) : ∀ (m n x : Nat), x + m = sn A → m < n → dn_X6_revisionAt_L3 (f : Int) b k n (x : Int) M = some (frst (fun x => decide (sho A x = b ∧ srk A x = k)) m x, M) := by
  have h5 := hI.1
  intro m
  induction m with
  | zero =>
    intro n x hx hn
    obtain ⟨n, rfl⟩ : ∃ n', n = n' + 1 := ⟨n - 1, by omega⟩
    rw [dn_X6_revisionAt_L3, dn_X6_revisionAt_L3B, e_Rd f rfl (by omega), hR.1.1, e_Let ⟨by omega, by omega⟩ (by omega)]
    rfl
  | succ m ih =>
    intro n x hx hn
    obtain ⟨n, rfl⟩ : ∃ n', n = n' + 1 := ⟨n - 1, by omega⟩
    have hh := hI.2.2.2.1 x (by omega)
    have hrk := hI.2.2.2.2.1 x (by omega)
    have hle := cnt_le (sho A) (sho A x) (x + 1)
    have e := ih n (x + 1) (by omega) (by omega)
    rw [dn_X6_revisionAt_L3, dn_X6_revisionAt_L3B, e_Rd f rfl (by omega), hR.1.1, e_Lef ⟨by omega, by omega⟩ (by omega), e_Rd (24 * f + x) (by omega) (by omega), (hR.2.1 x (by omega)).2.2.1, e_Eq ⟨by omega, hb⟩, e_Rd (24 * f + x) (by omega) (by omega), (hR.2.1 x (by omega)).2.2.2, e_Eq ⟨by omega, hk⟩]
    simp only [dn_X6_revisionAt_J49]
    rw [show ((x : Int) + 1) = ((x + 1 : Nat) : Int) by omega, e]
    show _ = some ((if decide (sho A x = b ∧ srk A x = k) = true then (x : Int) else frst (fun x => decide (sho A x = b ∧ srk A x = k)) m (x + 1)), M)
    by_cases c1 : sho A x = b
    · rw [if_pos c1]
      by_cases c2 : srk A x = k
      · rw [if_pos c2, if_pos (by simp [c1, c2])]
      · rw [if_neg c2, if_neg (by simp [c2])]
    · rw [if_neg c1, if_neg (by simp [c1])]
end PM2
