/-! the state that the constructors make -/
def MS : fMem := jM 115 (jM 0 (fun _ _ => 0) M_X5_init) M_X6_init
def A0 : FS := (0, 0, -1, 0, fun _ => 0, fun _ => 0, fun _ => 0, fun _ => 0, fun _ => 0, fun _ => 0, fun _ => -1)
def s0 : GS := (fun _ => A0, fun _ => 0, fun _ => -1, fun _ => 0, fun _ => 0, fun _ => -1)
theorem A0_AI (so : Nat → Int) : AI A0 so := by
  refine ⟨⟨by decide, by decide⟩, fun r hr => absurd hr (Nat.not_lt_zero _), fun r hr => absurd hr (Nat.not_lt_zero _), fun r hr => absurd hr (Nat.not_lt_zero _), fun r hr => absurd hr (Nat.not_lt_zero _), fun b h1 h2 => ?_, fun b h1 h2 => ?_, Or.inl rfl, by decide, fun t _ => Or.inl rfl, fun h => absurd h (Nat.lt_irrefl _), fun _ => rfl, fun h => absurd h (Nat.lt_irrefl _)⟩
  · exact absurd (show b ≤ 0 from h2) (by omega)
  · exact absurd (show b ≤ 0 from h2) (by omega)
theorem s0_Inv : Inv s0 := ⟨fun _ _ => A0_AI _, fun _ _ => Or.inl rfl, fun c f _ _ => ⟨Or.inl rfl, Or.inl rfl, (show tOk 0 from ⟨by decide, by decide, by decide⟩), Or.inl rfl⟩⟩
set_option maxRecDepth 100000 in
theorem s0_RC : ∀ f, f < 4 → RC (2 + 11 * f) A0 MS := by
  intro f hf
  rcases (show f = 0 ∨ f = 1 ∨ f = 2 ∨ f = 3 by omega) with rfl | rfl | rfl | rfl
  all_goals
    refine ⟨⟨rfl, rfl, rfl, rfl⟩, fun r _ => ⟨rfl, rfl, rfl, rfl⟩, fun b h1 h2 => ?_, rfl, fun t ht => ?_, fun b hb => rfl, fun b hb => ?_, fun r hr => absurd hr (Nat.not_lt_zero _)⟩
    · rcases (show b = 1 ∨ b = 2 ∨ b = 3 ∨ b = 4 ∨ b = 5 by omega) with rfl | rfl | rfl | rfl | rfl <;> exact ⟨rfl, rfl⟩
    · rcases (show t = 0 ∨ t = 1 ∨ t = 2 ∨ t = 3 ∨ t = 4 by omega) with rfl | rfl | rfl | rfl | rfl <;> rfl
    · have hb0 : b = 0 := Nat.le_zero.mp hb
      subst hb0
      rfl
set_option maxRecDepth 100000 in
theorem s0_RelC : RelC s0 MS := by
  refine ⟨s0_RC, fun t ht => rfl, fun k hk => ?_⟩
  rcases (show k = 0 ∨ k = 1 ∨ k = 2 ∨ k = 3 ∨ k = 4 ∨ k = 5 ∨ k = 6 ∨ k = 7 ∨ k = 8 ∨ k = 9 ∨ k = 10 ∨ k = 11 by omega) with rfl | rfl | rfl | rfl | rfl | rfl | rfl | rfl | rfl | rfl | rfl | rfl <;> exact ⟨rfl, rfl, rfl, rfl⟩
set_option maxRecDepth 100000 in
theorem s0_RM : ∀ f, f < 4 → RM f A0 MS := by
  intro f hf
  rcases (show f = 0 ∨ f = 1 ∨ f = 2 ∨ f = 3 by omega) with rfl | rfl | rfl | rfl
  all_goals
    refine ⟨⟨rfl, rfl, rfl, rfl⟩, fun r _ => ⟨rfl, rfl, rfl, rfl⟩, fun b h1 h2 => ⟨rfl, rfl⟩, fun t ht => ?_⟩
    rcases (show t = 0 ∨ t = 1 ∨ t = 2 ∨ t = 3 ∨ t = 4 by omega) with rfl | rfl | rfl | rfl | rfl <;> rfl
set_option maxRecDepth 100000 in
theorem s0_RelM : RelM s0 MS := by
  refine ⟨s0_RM, fun t ht => rfl, fun k hk => ?_⟩
  rcases (show k = 0 ∨ k = 1 ∨ k = 2 ∨ k = 3 ∨ k = 4 ∨ k = 5 ∨ k = 6 ∨ k = 7 ∨ k = 8 ∨ k = 9 ∨ k = 10 ∨ k = 11 by omega) with rfl | rfl | rfl | rfl | rfl | rfl | rfl | rfl | rfl | rfl | rfl | rfl <;> exact ⟨rfl, rfl, rfl, rfl⟩
theorem start_1 {sc : Nat → Int} {L : Nat} (hsc : ∀ j, InI (sc j)) (hL : L ≤ 2560) : ∃ M', dn_L_law_L18 sc L 600 0 MS = some (1, M') := law_1 hsc hL 600 0 MS s0 s0_RelC s0_RelM s0_Inv (Nat.zero_le _) (by omega)
