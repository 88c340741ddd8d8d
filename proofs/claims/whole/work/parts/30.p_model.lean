/-! the reference's file methods -/
def inF (f q k : Nat) : Prop := (q = 116 ∧ k = f) ∨ (117 ≤ q ∧ q ≤ 120 ∧ 24 * f ≤ k ∧ k < 24 * f + 24) ∨ (q = 121 ∧ k = f) ∨ (122 ≤ q ∧ q ≤ 123 ∧ 6 * f ≤ k ∧ k < 6 * f + 6) ∨ (124 ≤ q ∧ q ≤ 125 ∧ k = f) ∨ (q = 127 ∧ 5 * f ≤ k ∧ k < 5 * f + 5)
def frM (f : Nat) (M M' : fMem) : Prop := ∀ q k, ¬ inF f q k → M' q k = M q k
theorem frM.trans {f : Nat} {M M1 M2 : fMem} (h : frM f M M1) (h' : frM f M1 M2) : frM f M M2 := fun q k hq => (h' q k hq).trans (h q k hq)
theorem frM.rf (f : Nat) (M : fMem) : frM f M M := fun _ _ _ => rfl
theorem frM.one {f q k : Nat} {M : fMem} {v : Int} (h : inF f q k) : frM f M (fup M q k v) := fun q' k' hq => fup_ne (fun z => hq (by rw [z.1, z.2]; exact h))
section PM
variable {f : Nat} {A : FS} {so : Nat → Int} {M : fMem}
theorem RM.fr {M' : fMem} (h : RM f A M) (hf : ∀ q k, inF f q k → M' q k = M q k) : RM f A M' := by
  obtain ⟨⟨h1, h2, h3, h4⟩, h5, h6, h7⟩ := h
  refine ⟨⟨?_, ?_, ?_, ?_⟩, fun r hr => ?_, fun b hb1 hb2 => ?_, fun t ht => ?_⟩
  · rw [hf _ _ (by unfold inF; omega)]; exact h1
  · rw [hf _ _ (by unfold inF; omega)]; exact h2
  · rw [hf _ _ (by unfold inF; omega)]; exact h3
  · rw [hf _ _ (by unfold inF; omega)]; exact h4
  · rw [hf _ _ (by unfold inF; omega), hf _ _ (by unfold inF; omega), hf _ _ (by unfold inF; omega), hf _ _ (by unfold inF; omega)]; exact h5 r hr
  · rw [hf _ _ (by unfold inF; omega), hf _ _ (by unfold inF; omega)]; exact h6 b hb1 hb2
  · rw [hf _ _ (by unfold inF; omega)]; exact h7 t ht
theorem RM.std (h : RM f A M) (v : Int) : RM f (fStd A v) (fup M 125 f v) := by
  obtain ⟨⟨h1, h2, h3, h4⟩, h5, h6, h7⟩ := h
  refine ⟨⟨?_, ?_, ?_, fup_self _ _ _ _⟩, fun r hr => ?_, fun b hb1 hb2 => ?_, fun t ht => ?_⟩
  · rw [fup_ne (by omega)]; exact h1
  · rw [fup_ne (by omega)]; exact h2
  · rw [fup_ne (by omega)]; exact h3
  · rw [fup_ne (by omega), fup_ne (by omega), fup_ne (by omega), fup_ne (by omega)]; exact h5 r hr
  · rw [fup_ne (by omega), fup_ne (by omega)]; exact h6 b hb1 hb2
  · rw [fup_ne (by omega)]; exact h7 t ht
theorem RM.ven (h : RM f A M) (v : Int) : RM f (fVen A v) (fup M 124 f v) := by
  obtain ⟨⟨h1, h2, h3, h4⟩, h5, h6, h7⟩ := h
  refine ⟨⟨?_, ?_, fup_self _ _ _ _, ?_⟩, fun r hr => ?_, fun b hb1 hb2 => ?_, fun t ht => ?_⟩
  · rw [fup_ne (by omega)]; exact h1
  · rw [fup_ne (by omega)]; exact h2
  · rw [fup_ne (by omega)]; exact h4
  · rw [fup_ne (by omega), fup_ne (by omega), fup_ne (by omega), fup_ne (by omega)]; exact h5 r hr
  · rw [fup_ne (by omega), fup_ne (by omega)]; exact h6 b hb1 hb2
  · rw [fup_ne (by omega)]; exact h7 t ht
theorem RM.nam (h : RM f A M) (t : Nat) (v : Int) : RM f (fNam A t v) (fup M 127 (5 * f + t) v) := by
  obtain ⟨⟨h1, h2, h3, h4⟩, h5, h6, h7⟩ := h
  refine ⟨⟨?_, ?_, ?_, ?_⟩, fun r hr => ?_, fun b hb1 hb2 => ?_, fun t' ht => ?_⟩
  · rw [fup_ne (by omega)]; exact h1
  · rw [fup_ne (by omega)]; exact h2
  · rw [fup_ne (by omega)]; exact h3
  · rw [fup_ne (by omega)]; exact h4
  · rw [fup_ne (by omega), fup_ne (by omega), fup_ne (by omega), fup_ne (by omega)]; exact h5 r hr
  · rw [fup_ne (by omega), fup_ne (by omega)]; exact h6 b hb1 hb2
  · show _ = pup (snm A) t v t'
    by_cases htt : t' = t
    · subst htt; rw [fup_self, pup_s]
    · rw [fup_ne (by omega), pup_n htt]; exact h7 t' ht
/-- what appending asks of a file's state -/
def AW (A : FS) : Prop := (sn A ≤ 24 ∧ sb A ≤ 5) ∧ (∀ r, r < sn A → 0 ≤ sho A r ∧ sho A r ≤ (sb A : Int)) ∧ ∀ r, r < sn A → srk A r = (cnt (sho A) (sho A r) (r + 1) : Int)
theorem AI.aw (h : AI A so) : AW A := ⟨h.1, h.2.2.2.1, h.2.2.2.2.1⟩
theorem ev_last6w_L (hf : f < 4) (hR : RM f A M) (hI : AW A) {b : Int} (hb : InI b) : ∀ (m n k : Nat), k + m = sn A → m < n → dn_X6_last_L5 (f : Int) b n (lst (sho A) b k) (k : Int) M = some (lst (sho A) b (sn A), M) := by
  have h5 := hI.1
  intro m
  induction m with
  | zero =>
    intro n k hk hn
    obtain ⟨n, rfl⟩ : ∃ n', n = n' + 1 := ⟨n - 1, by omega⟩
    rw [dn_X6_last_L5, dn_X6_last_L5B, e_Rd f rfl (by omega), hR.1.1, e_Let ⟨by omega, by omega⟩ (by omega), show k = sn A by omega]
  | succ m ih =>
    intro n k hk hn
    obtain ⟨n, rfl⟩ : ∃ n', n = n' + 1 := ⟨n - 1, by omega⟩
    have hh := hI.2.1 k (by omega)
    have e := ih n (k + 1) (by omega) (by omega)
    rw [lst_s] at e
    rw [dn_X6_last_L5, dn_X6_last_L5B, e_Rd f rfl (by omega), hR.1.1, e_Lef ⟨by omega, by omega⟩ (by omega), e_Rd (24 * f + k) (by omega) (by omega), (hR.2.1 k (by omega)).2.2.1, e_Eq ⟨by omega, hb⟩]
    simp only [dn_X6_last_J38]
    rw [show ((k : Int) + 1) = ((k + 1 : Nat) : Int) by omega, ← e]
    by_cases h0 : sho A k = b
    · rw [if_pos h0, if_pos h0]
    · rw [if_neg h0, if_neg h0]
theorem ev_last6w (hf : f < 4) (hR : RM f A M) (hI : AW A) {b : Int} (hb : InI b) : dn_X6_last (f : Int) b M = some (lst (sho A) b (sn A), M) := by
  have h5 := hI.1
  exact ev_last6w_L hf hR hI hb (sn A) 600 0 (by omega) (by omega)
theorem ev_last6 (hf : f < 4) (hR : RM f A M) (hI : AI A so) {b : Int} (hb : InI b) : dn_X6_last (f : Int) b M = some (lst (sho A) b (sn A), M) := ev_last6w hf hR hI.aw hb
theorem ev_noneOrDead6 (hf : f < 4) (hR : RM f A M) (hI : AI A so) {r : Int} (hr : r = -1 ∨ (0 ≤ r ∧ r < (sn A : Int))) : dn_X6_noneOrDead (f : Int) r M = some (b2 (¬ (r ≠ -1 ∧ sdd A r.toNat = 0)), M) := by
  have h := hI.1.1
  rw [dn_X6_noneOrDead, e_Lt ⟨by omega, by omega⟩]
  simp only [dn_X6_noneOrDead_J18]
  by_cases h1 : r = -1
  · rw [if_pos (by omega), fRz_1, b2_t (show ¬ (r ≠ -1 ∧ sdd A r.toNat = 0) from fun q => q.1 h1)]
  · rw [if_neg (by omega)]
    obtain ⟨x, rfl⟩ := Int.eq_ofNat_of_zero_le (show 0 ≤ r by omega)
    have hd := hI.2.2.1 x (by omega)
    rw [e_Rd (24 * f + x) (by omega) (by omega), (hR.2.1 x (by omega)).2.1, e_Eq ⟨by omega, by omega⟩, fRz_0, fRz_1]
    by_cases h2 : sdd A x = 0
    · rw [if_pos h2, b2_f (fun q => q ⟨h1, h2⟩)]
    · rw [if_neg h2, b2_t (show ¬ ((x : Int) ≠ -1 ∧ sdd A (x : Int).toNat = 0) from fun q => h2 q.2)]
/-- the selected revision by a tag, -1 for none -/
def selA (A : FS) (so : Nat → Int) (t : Int) : Int :=
  if sn A = 0 then -1 else if t = -1 then lst (sho A) (sd A) (sn A) else if snm A t.toNat = -1 ∨ so t.toNat = 1 then snm A t.toNat else tipOf A (snm A t.toNat).toNat (sn A)
theorem ev_selectedBy6 (hf : f < 4) (hR : RM f A M) (hI : AI A so) (hS : ∀ t, t < 5 → M 126 t = so t ∧ 0 ≤ so t ∧ so t ≤ 2) {t : Int} (ht : t = -1 ∨ (0 ≤ t ∧ t < 5)) : dn_X6_selectedBy (f : Int) t M = some (selA A so t, M) := by
  have h := hI.1
  have hd := hI.2.2.2.2.2.2.2.2.1
  rw [dn_X6_selectedBy, e_Rd f rfl (by omega), hR.1.1, e_Eq ⟨by omega, by omega⟩]
  unfold selA
  by_cases h0 : sn A = 0
  · rw [if_pos (by omega), if_pos h0]
  · rw [if_neg (by omega), if_neg h0, e_Eq ⟨by omega, by omega⟩]
    by_cases h1 : t = -1
    · rw [if_pos h1, if_pos h1, e_Rd f rfl (by omega), hR.1.2.2.2, e_Cl (ev_last6 hf hR hI (by omega))]
    · rw [if_neg h1, if_neg h1]
      obtain ⟨x, rfl⟩ := Int.eq_ofNat_of_zero_le (show 0 ≤ t by omega)
      have hn := hI.2.2.2.2.2.2.2.2.2.1 x (by omega)
      have hs := hS x (by omega)
      rw [e_Rd (5 * f + x) (by omega) (by omega), hR.2.2.2 x (by omega), e_Eq ⟨by omega, by omega⟩, Int.toNat_natCast]
      by_cases h2 : snm A x = -1
      · rw [if_pos h2, if_pos (Or.inl h2)]
      · rw [if_neg h2, e_Rd x rfl (by omega), hs.1, e_Eq ⟨by omega, by omega⟩]
        by_cases h3 : so x = 1
        · rw [if_pos h3, if_pos (Or.inr h3)]
        · rw [if_neg h3, if_neg (by rintro (q | q) <;> contradiction)]
          have hw : 1 ≤ snm A x ∧ snm A x ≤ (sb A : Int) := by omega
          have hp := hI.2.2.2.2.2.1 (snm A x).toNat (by omega) (by omega)
          rw [e_Cl (ev_last6 hf hR hI (by omega))]
          unfold tipOf
          rw [show ((snm A x).toNat : Int) = snm A x by omega]
          rcases lst_in (sho A) (snm A x) (sn A) with q | ⟨r, q, q1, -⟩
          · rw [q, e_Lef ⟨by omega, by omega⟩ (by omega), e_Rd (6 * f + (snm A x).toNat) (by omega) (by omega), (hR.2.2.1 _ (by omega) (by omega)).1, if_pos rfl, if_neg (by omega)]
          · rw [q, e_Let ⟨by omega, by omega⟩ (by omega), if_neg (by omega)]
theorem ev_revise6w (hf : f < 4) (hR : RM f A M) (hI : AW A) {b : Nat} {t d : Int} (hb : b ≤ sb A) (hn : sn A < 24) (hd : d = 0 ∨ d = 1) : ∃ M', dn_X6_revise (f : Int) (b : Int) t d M = some ((sn A : Int), M') ∧ RM f (fApp A b t d) M' ∧ frM f M M' := by
  have h5 := hI.1
  have key : ∀ (v : Int) (N : fMem), RM f A N → frM f M N → N 120 (24 * f + sn A) = srk A (sn A) → v = ((cnt (sho A) (b : Int) (sn A) + 1 : Nat) : Int) → ∃ M', dn_X6_revise_J75 (f : Int) (b : Int) t d (lst (sho A) (b : Int) (sn A)) ((24 * (f : Int)) + (sn A : Int)) v ((24 * (f : Int)) + (sn A : Int)) (fup (fup (fup N 117 (24 * f + sn A) t) 118 (24 * f + sn A) d) 119 (24 * f + sn A) (b : Int)) = some ((sn A : Int), M') ∧ RM f (fApp A b t d) M' ∧ frM f M M' := by
    intro v N hN hfr _ hv
    subst hv
    obtain ⟨⟨h1, h2, h3, h4⟩, g5, g6, g7⟩ := hN
    rw [dn_X6_revise_J75, e_Wr (24 * f + sn A) (by omega) (by omega), e_Rd f rfl (by omega), fup_ne (by omega), fup_ne (by omega), fup_ne (by omega), fup_ne (by omega), h1, e_Wr f rfl (by omega), e_Rd f rfl (by omega), fup_self]
    refine ⟨_, by rw [show ((sn A : Int) + 1) - 1 = (sn A : Int) by omega], ?_, ?_⟩
    · refine ⟨⟨?_, ?_, ?_, ?_⟩, fun r hr => ?_, fun b' hb1 hb2 => ?_, fun t' ht => ?_⟩
      · rw [fup_self]
        show _ = ((sn A + 1 : Nat) : Int)
        omega
      · rw [fup_ne (by omega), fup_ne (by omega), fup_ne (by omega), fup_ne (by omega), fup_ne (by omega)]; exact h2
      · rw [fup_ne (by omega), fup_ne (by omega), fup_ne (by omega), fup_ne (by omega), fup_ne (by omega)]; exact h3
      · rw [fup_ne (by omega), fup_ne (by omega), fup_ne (by omega), fup_ne (by omega), fup_ne (by omega)]; exact h4
      · have hh := g5 r hr
        by_cases hrn : r = sn A
        · subst hrn
          refine ⟨?_, ?_, ?_, ?_⟩
          · rw [fup_ne (by omega), fup_ne (by omega), fup_ne (by omega), fup_ne (by omega), fup_self]; exact (pup_s _ _ _).symm
          · rw [fup_ne (by omega), fup_ne (by omega), fup_ne (by omega), fup_self]; exact (pup_s _ _ _).symm
          · rw [fup_ne (by omega), fup_ne (by omega), fup_self]; exact (pup_s _ _ _).symm
          · rw [fup_ne (by omega), fup_self]; exact (pup_s _ _ _).symm
        · refine ⟨?_, ?_, ?_, ?_⟩
          · rw [fup_ne (by omega), fup_ne (by omega), fup_ne (by omega), fup_ne (by omega), fup_ne (by omega)]; exact hh.1.trans (pup_n hrn).symm
          · rw [fup_ne (by omega), fup_ne (by omega), fup_ne (by omega), fup_ne (by omega), fup_ne (by omega)]; exact hh.2.1.trans (pup_n hrn).symm
          · rw [fup_ne (by omega), fup_ne (by omega), fup_ne (by omega), fup_ne (by omega), fup_ne (by omega)]; exact hh.2.2.1.trans (pup_n hrn).symm
          · rw [fup_ne (by omega), fup_ne (by omega), fup_ne (by omega), fup_ne (by omega), fup_ne (by omega)]; exact hh.2.2.2.trans (pup_n hrn).symm
      · rw [fup_ne (by omega), fup_ne (by omega), fup_ne (by omega), fup_ne (by omega), fup_ne (by omega), fup_ne (by omega), fup_ne (by omega), fup_ne (by omega), fup_ne (by omega), fup_ne (by omega)]
        exact g6 b' hb1 hb2
      · rw [fup_ne (by omega), fup_ne (by omega), fup_ne (by omega), fup_ne (by omega), fup_ne (by omega)]; exact g7 t' ht
    · refine hfr.trans (fun q k hq => ?_)
      unfold inF at hq
      rw [fup_ne (by omega), fup_ne (by omega), fup_ne (by omega), fup_ne (by omega), fup_ne (by omega)]
  rw [dn_X6_revise, e_Cl (ev_last6w hf hR hI (by omega)), e_Rd f rfl (by omega), hR.1.1, e_Wr (24 * f + sn A) (by omega) (by omega), e_Wz (24 * f + sn A) (by omega) (by omega) hd, e_Wr (24 * f + sn A) (by omega) (by omega)]
  rcases lst_in (sho A) (b : Int) (sn A) with q | ⟨r, q, q1, q2, q3⟩
  · have hc : cnt (sho A) (b : Int) (sn A) = 0 := (cnt_flat (m := 0) (Nat.zero_le _) (fun k _ hk => lst_none q k hk))
    rw [e_Lef ⟨by omega, by omega⟩ (by omega)]
    exact key 1 M hR (frM.rf f M) (hR.2.1 _ (by omega)).2.2.2 (by rw [hc]; rfl)
  · have hrk := hI.2.2 r q1
    have hc : cnt (sho A) (b : Int) (sn A) = cnt (sho A) (b : Int) (r + 1) := cnt_flat (by omega) (fun k h1 h2 => q3 k (by omega) h2)
    have hle := cnt_le (sho A) (b : Int) (sn A)
    rw [e_Let ⟨by omega, by omega⟩ (by omega), e_Rd (24 * f + r) (by omega) (by omega), fup_ne (by omega), fup_ne (by omega), fup_ne (by omega), (hR.2.1 r (by omega)).2.2.2]
    exact key _ M hR (frM.rf f M) (hR.2.1 _ (by omega)).2.2.2 (by rw [hrk, q2, hc]; omega)
theorem ev_revise6 (hf : f < 4) (hR : RM f A M) (hI : AI A so) {b : Nat} {t d : Int} (hb : b ≤ sb A) (hn : sn A < 24) (hd : d = 0 ∨ d = 1) : ∃ M', dn_X6_revise (f : Int) (b : Int) t d M = some ((sn A : Int), M') ∧ RM f (fApp A b t d) M' ∧ frM f M M' := ev_revise6w hf hR hI.aw hb hn hd
theorem ev_branchAt6 (hf : f < 4) (hR : RM f A M) {p m : Int} (hb : sb A < 5) : ∃ M', dn_X6_branchAt (f : Int) p m M = some (((sb A + 1 : Nat) : Int), M') ∧ RM f (fOpn A p m) M' ∧ frM f M M' := by
  obtain ⟨⟨h1, h2, h3, h4⟩, h5, h6, h7⟩ := hR
  rw [dn_X6_branchAt, e_Rd f rfl (by omega), h2, e_Wr (6 * f + (sb A + 1)) (by omega) (by omega), e_Wr (6 * f + (sb A + 1)) (by omega) (by omega), e_Rd f rfl (by omega), fup_ne (by omega), fup_ne (by omega), h2, e_Wr f rfl (by omega)]
  refine ⟨_, by rw [show ((sb A + 1 : Nat) : Int) = (sb A : Int) + 1 by omega], ?_, fun q k hq => by unfold inF at hq; rw [fup_ne (by omega), fup_ne (by omega), fup_ne (by omega)]⟩
  refine ⟨⟨?_, ?_, ?_, ?_⟩, fun r hr => ?_, fun b' hb1 hb2 => ?_, fun t' ht => ?_⟩
  · rw [fup_ne (by omega), fup_ne (by omega), fup_ne (by omega)]; exact h1
  · rw [fup_self]
    show _ = ((sb A + 1 : Nat) : Int)
    omega
  · rw [fup_ne (by omega), fup_ne (by omega), fup_ne (by omega)]; exact h3
  · rw [fup_ne (by omega), fup_ne (by omega), fup_ne (by omega)]; exact h4
  · rw [fup_ne (by omega), fup_ne (by omega), fup_ne (by omega), fup_ne (by omega), fup_ne (by omega), fup_ne (by omega), fup_ne (by omega), fup_ne (by omega), fup_ne (by omega), fup_ne (by omega), fup_ne (by omega), fup_ne (by omega)]; exact h5 r hr
  · have hh := h6 b' hb1 hb2
    by_cases hbb : b' = sb A + 1
    · subst hbb
      refine ⟨?_, ?_⟩
      · rw [fup_ne (by omega), fup_ne (by omega), fup_self]; exact (pup_s _ _ _).symm
      · rw [fup_ne (by omega), fup_self]; exact (pup_s _ _ _).symm
    · refine ⟨?_, ?_⟩
      · rw [fup_ne (by omega), fup_ne (by omega), fup_ne (by omega)]; exact hh.1.trans (pup_n hbb).symm
      · rw [fup_ne (by omega), fup_ne (by omega), fup_ne (by omega)]; exact hh.2.trans (pup_n hbb).symm
  · rw [fup_ne (by omega), fup_ne (by omega), fup_ne (by omega)]; exact h7 t' ht
end PM
