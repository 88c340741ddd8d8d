/-! the law's loop answers 1 -/
section PL
theorem e_Sc {α : Type} {sc : Nat → Int} {L : Nat} {i : Int} {k : Int → Option α} (j : Nat) (h : i = (j : Int)) (hj : j < L) : fSc sc L i k = k (sc j) := by
  subst h
  unfold fSc
  rw [if_pos ⟨by omega, by omega⟩]
  rfl
theorem fOr_in (a b : Int) : InL (fOr a b) := by
  unfold fOr
  have h1 := Int64.le_toInt (fL a ||| fL b)
  have h2 := Int64.toInt_lt (fL a ||| fL b)
  omega
theorem stI {d5 d6 : fMem → fOp} {M : fMem} (h : Gd InI d5 d6 M) (k : fMem → fOp) (hk : ∀ s M2, RelC s M2 → RelM s M2 → Inv s → ∃ M', k M2 = some (1, M')) : ∃ M', fCl (d5 M) (fun v M1 => fCl (d6 M1) (fun w M2 => fEq v w (k M2) none)) = some (1, M') := by
  obtain ⟨v, M1, M2, s, h1, h2, h3, h4, h5, h6⟩ := h
  rw [e_Cl h1, e_Cl h2, e_Eqt ⟨h3, h3⟩ rfl]
  exact hk s M2 h4 h5 h6
theorem stL {d5 d6 : fMem → fOp} {M : fMem} (h : Gd InL d5 d6 M) (k : fMem → fOp) (hk : ∀ s M2, RelC s M2 → RelM s M2 → Inv s → ∃ M', k M2 = some (1, M')) : ∃ M', fCl (d5 M) (fun v M1 => fCl (d6 M1) (fun w M2 => fEqL v w (k M2) none)) = some (1, M') := by
  obtain ⟨v, M1, M2, s, h1, h2, h3, h4, h5, h6⟩ := h
  rw [e_Cl h1, e_Cl h2, e_EqL ⟨h3, h3⟩, if_pos rfl]
  exact hk s M2 h4 h5 h6
set_option maxHeartbeats 2000000 in
theorem law_1 {sc : Nat → Int} {L : Nat} (hsc : ∀ j, InI (sc j)) (hL : L ≤ 2560) : ∀ (n i : Nat) (M : fMem) (s : GS), RelC s M → RelM s M → Inv s → i ≤ L → L - i < 5 * n → ∃ M', dn_L_law_L18 sc L n (i : Int) M = some (1, M') := by
  intro n
  induction n with
  | zero => intro i M s _ _ _ _ h; omega
  | succ n ih =>
    intro i M s hC hM hI hi hn
    rw [dn_L_law_L18, dn_L_law_L18B, e_Lt ⟨by omega, by omega⟩]
    by_cases hend : (L : Int) - 5 < (i : Int)
    · rw [if_pos hend]
      exact ⟨M, rfl⟩
    · rw [if_neg hend]
      have hs0 : ∀ k : Int → fOp, fSc sc L (i : Int) k = k (sc i) := fun k => e_Sc i rfl (by omega)
      have hs1 : ∀ k : Int → fOp, fSc sc L ((i : Int) + 1) k = k (sc (i + 1)) := fun k => e_Sc (i + 1) (by omega) (by omega)
      have hs2 : ∀ k : Int → fOp, fSc sc L ((i : Int) + 2) k = k (sc (i + 2)) := fun k => e_Sc (i + 2) (by omega) (by omega)
      have hs3 : ∀ k : Int → fOp, fSc sc L ((i : Int) + 3) k = k (sc (i + 3)) := fun k => e_Sc (i + 3) (by omega) (by omega)
      have hs4 : ∀ k : Int → fOp, fSc sc L ((i : Int) + 4) k = k (sc (i + 4)) := fun k => e_Sc (i + 4) (by omega) (by omega)
      have y0 := hsc i
      have y1 := hsc (i + 1)
      have y2 := hsc (i + 2)
      have y3 := hsc (i + 3)
      have y4 := hsc (i + 4)
      have hx2 : ∀ k : fOp, fX2 (sc (i + 2)) k = k := fun k => e_X2 y2
      have hx3 : ∀ k : fOp, fX2 (sc (i + 3)) k = k := fun k => e_X2 y3
      have hx4 : ∀ k : fOp, fX2 (sc (i + 4)) k = k := fun k => e_X2 y4
      simp only [dn_L_law_J408, dn_L_law_J440, hs0, hs1, hs2, hs3, hs4, hx2, hx3, hx4, fA5]
      generalize sc (i + 1) = x1 at *
      generalize sc (i + 2) = x2 at *
      generalize sc (i + 3) = x3 at *
      generalize sc (i + 4) = x4 at *
      have hz : 0 ≤ sc i % 32 ∧ sc i % 32 < 32 := ⟨Int.emod_nonneg _ (by decide), Int.emod_lt_of_pos _ (by decide)⟩
      generalize sc i % 32 = z at *
      have nx : ∀ s M2, RelC s M2 → RelM s M2 → Inv s → ∃ M', dn_L_law_J899 sc L (fun a3 M => dn_L_law_L18 sc L n a3 M) (i : Int) M2 = some (1, M') := by
        intro s' M2 h1 h2 h3
        rw [dn_L_law_J899, show (i : Int) + 5 = ((i + 5 : Nat) : Int) by omega]
        exact ih (i + 5) M2 s' h1 h2 h3 (by omega) (by omega)
      rw [e_Eq ⟨by omega, by omega⟩]
      by_cases c0 : z = 0
      · rw [if_pos c0]; exact stI (gd_add hC hM hI y1 y2 (fOr_in _ _)) _ nx
      rw [if_neg c0, e_Eq ⟨by omega, by omega⟩]
      by_cases c1 : z = 1
      · rw [if_pos c1]; exact stI (gd_edit hC hM hI y1 y2 (fOr_in _ _)) _ nx
      rw [if_neg c1, e_Eq ⟨by omega, by omega⟩]
      by_cases c2 : z = 2
      · rw [if_pos c2]; exact stI (gd_remove hC hM hI y1 y2) _ nx
      rw [if_neg c2, e_Eq ⟨by omega, by omega⟩]
      by_cases c3 : z = 3
      · rw [if_pos c3]; exact stI (gd_commit hC hM hI y1 y2) _ nx
      rw [if_neg c3, e_Eq ⟨by omega, by omega⟩]
      by_cases c4 : z = 4
      · rw [if_pos c4]; exact stI (gd_update hC hM hI y1 y2 y3) _ nx
      rw [if_neg c4, e_Eq ⟨by omega, by omega⟩]
      by_cases c5 : z = 5
      · rw [if_pos c5, e_Eq ⟨y4, by omega⟩]
        simp only [e_Eq (α := Int × fMem) ⟨y4, in0⟩]
        by_cases q : x4 = 0
        · simp only [if_pos q]; exact stI (gd_tag hC hM hI y1 y2 y3 (by omega)) _ nx
        · simp only [if_neg q]; exact stI (gd_tag hC hM hI y1 y2 y3 (by omega)) _ nx
      rw [if_neg c5, e_Eq ⟨by omega, by omega⟩]
      by_cases c6 : z = 6
      · rw [if_pos c6]; exact stI (gd_bring hC hM hI y1 (fOr_in _ _)) _ nx
      rw [if_neg c6, e_Eq ⟨by omega, by omega⟩]
      by_cases c7 : z = 7
      · rw [if_pos c7]; exact stI (gd_entry hC hM hI y1 y2) _ nx
      rw [if_neg c7, e_Eq ⟨by omega, by omega⟩]
      by_cases c8 : z = 8
      · rw [if_pos c8]; exact stI (gd_removed hC hM hI y1 y2) _ nx
      rw [if_neg c8, e_Eq ⟨by omega, by omega⟩]
      by_cases c9 : z = 9
      · rw [if_pos c9]; exact stL (gd_local hC hM hI y1 y2) _ nx
      rw [if_neg c9, e_Eq ⟨by omega, by omega⟩]
      by_cases c10 : z = 10
      · rw [if_pos c10]; exact stI (gd_selected hC hM hI y1 y2) _ nx
      rw [if_neg c10, e_Eq ⟨by omega, by omega⟩]
      by_cases c11 : z = 11
      · rw [if_pos c11]; exact stI (gd_sticky hC hM hI y1 y2) _ nx
      rw [if_neg c11, e_Eq ⟨by omega, by omega⟩]
      by_cases c12 : z = 12
      · rw [if_pos c12]; exact stI (gd_revisions hC hM hI y1) _ nx
      rw [if_neg c12, e_Eq ⟨by omega, by omega⟩]
      by_cases c13 : z = 13
      · rw [if_pos c13]; exact stI (gd_number hC hM hI y1 y2 y3) _ nx
      rw [if_neg c13, e_Eq ⟨by omega, by omega⟩]
      by_cases c14 : z = 14
      · rw [if_pos c14]; exact stL (gd_content hC hM hI y1 y2) _ nx
      rw [if_neg c14, e_Eq ⟨by omega, by omega⟩]
      by_cases c15 : z = 15
      · rw [if_pos c15]; exact stI (gd_dead hC hM hI y1 y2) _ nx
      rw [if_neg c15, e_Eq ⟨by omega, by omega⟩]
      by_cases c16 : z = 16
      · rw [if_pos c16]; exact stI (gd_kept hC hM hI y1 y2) _ nx
      rw [if_neg c16, e_Eq ⟨by omega, by omega⟩]
      by_cases c17 : z = 17
      · rw [if_pos c17]; exact stI (gd_named hC hM hI y1 y2) _ nx
      rw [if_neg c17, e_Eq ⟨by omega, by omega⟩]
      by_cases c18 : z = 18
      · rw [if_pos c18]; exact stI (gd_standard hC hM hI y1) _ nx
      rw [if_neg c18, e_X2 (by omega)]
      exact nx s M hC hM hI
end PL
