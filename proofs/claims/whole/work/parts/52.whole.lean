/-! whole_start -/
set_option maxRecDepth 100000 in
set_option maxHeartbeats 8000000 in
theorem whole_start {p : Program} {e : Env} {s : State} {m : MethodId} {below : List Frame} {meth : Method} {c : Code} (l : Launch) {b L : Nat} {xs : Nat → Int32} (hL : L ≤ 2560) (C0 : lw_At p s m meth c b L xs) : W p l e room_1 s m #[Value.ref b] below meth c s.heap [] 0 0 (lw_Z below #[Value.ref b] s) (entryFrame m ([Value.ref b] : List Value).toArray 4) := by
  obtain ⟨hx, hb, hr, hml, hown, hts, hX, hbl, hlocks, hgv⟩ := C0
  obtain ⟨D, aC, hK⟩ := start_K hts
  have hg : ∀ w ∈ goodTs, w.before #[Value.ref b] s = true := fun w h => hts w (List.mem_filter.mp h).1
  have hao : fAO s := ⟨va_AO.of (hts _ sw_77), va_AO.of (hts _ sw_139), arrayOver_alikeB (Vm.Alike.refl s.vm) (hts _ sw_169)⟩
  have hnw : fNw s := fun w hw hn => va_tabs (nestW_tab hn) (rfl : s.vm = s.vm) (hts w hw)
  have hA : ∀ q, s.heap.size ≤ q → (fun q => s.heap.size ≤ q) q := fun q h => h
  have hC : fCx p s m #[Value.ref b] c vwCl D aC [] (fun _ => 0) (fun q => s.heap.size ≤ q) goodTs code RL 4 := ⟨hx, hb, hml, hown, hg, hK, fun i _ h => absurd h (Nat.not_lt_zero _), fun i h => absurd h (Nat.not_lt_zero _), hnw⟩
  have K : GN p l e room_1 s m #[Value.ref b] below meth c vwCl D aC [] (fun _ => 0) (fun q => s.heap.size ≤ q) 4 0 0 (lw_Z below #[Value.ref b] s) 0 [(0, .ref b)] [] (fun _ _ => 0) := by
    refine n_new (ci := 4) hC hA (by decide +kernel) [(3, 0), (3, 0), (3, 0), (3, 0), (3, 0)] (by decide) (fun _ => rfl) (fun _ => [(0, .ref b)]) (fun _ => []) (fun _ _ => rfl) (fun _ _ => rfl) inX5 tyX5 tyX5_ok rfl sw_68 sw_69 sw_59 (by decide +kernel) (by decide) (by decide) dL_law_0 3 rfl ?_
    intro ad1 q1 hC1
    have hC1 : fCx p s m #[Value.ref b] c vwCl D aC [(4, 4, [(3, 0), (3, 0), (3, 0), (3, 0), (3, 0)])] ad1 (fun q => s.heap.size ≤ q) goodTs code RL 4 := hC1
    show GN p l e _ s m #[Value.ref b] below meth c vwCl D aC [(4, 4, [(3, 0), (3, 0), (3, 0), (3, 0), (3, 0)])] ad1 _ 4 _ _ _ 3 [(0, .ref b)] [.ref (ad1 0)] _
    refine GN.of (g_dup hC1 4 dL_law_3 rfl rfl (GN.to ?_))
    refine n_cI (tb := []) hC1 hA (by decide +kernel) (fun _ => rfl) (by decide) hao (cn_X5_init l) (by decide) (fun _ => [(0, .ref b)]) (fun ad => [.ref (ad 0)]) (fun _ _ => rfl) (fun ad' h => by simp only [h 0 (by decide)]) sw_70 sw_72 sw_59 sw_71 rfl (by decide +kernel) (by decide) (Nat.le_of_ble_eq_true rfl) (by decide) dL_law_4 7 rfl ?_
    intro ad2 q2 hC2
    have hC2 : fCx p s m #[Value.ref b] c vwCl D aC TX5_init_78 ad2 (fun q => s.heap.size ≤ q) goodTs code RL 4 := hC2
    show GN p l e _ s m #[Value.ref b] below meth c vwCl D aC TX5_init_78 ad2 _ 4 _ _ _ 7 [(0, .ref b)] [.ref (ad2 0)] _
    refine GN.of (g_astore_n hC2 8 [(1, .ref (ad2 0)), (0, .ref b)] dL_law_7 rfl (by decide) rfl rfl (GN.to ?_))
    refine n_new (ci := 5) hC2 hA (by decide +kernel) [(3, 0), (3, 0), (3, 0), (3, 0), (3, 0), (3, 0), (3, 0), (3, 0), (3, 0), (3, 0), (3, 0), (3, 0), (3, 0), (3, 0), (3, 0), (3, 0), (3, 0), (3, 0), (3, 0), (3, 0), (0, 0), (0, 0)] (by decide) (fun _ => rfl) (fun ad => [(1, .ref (ad 0)), (0, .ref b)]) (fun _ => []) (fun ad' h => by simp only [h 0 (by decide)]) (fun _ _ => rfl) inX6 tyX6 tyX6_ok rfl sw_521 sw_522 sw_65 (by decide +kernel) (by decide) (by decide) dL_law_8 11 rfl ?_
    intro ad3 q3 hC3
    have hC3 : fCx p s m #[Value.ref b] c vwCl D aC (TX5_init_78 ++ [(4, 5, [(3, 0), (3, 0), (3, 0), (3, 0), (3, 0), (3, 0), (3, 0), (3, 0), (3, 0), (3, 0), (3, 0), (3, 0), (3, 0), (3, 0), (3, 0), (3, 0), (3, 0), (3, 0), (3, 0), (3, 0), (0, 0), (0, 0)])]) ad3 (fun q => s.heap.size ≤ q) goodTs code RL 4 := hC3
    show GN p l e _ s m #[Value.ref b] below meth c vwCl D aC (TX5_init_78 ++ [(4, 5, [(3, 0), (3, 0), (3, 0), (3, 0), (3, 0), (3, 0), (3, 0), (3, 0), (3, 0), (3, 0), (3, 0), (3, 0), (3, 0), (3, 0), (3, 0), (3, 0), (3, 0), (3, 0), (3, 0), (3, 0), (0, 0), (0, 0)])]) ad3 _ 4 _ _ _ 11 [(1, .ref (ad3 0)), (0, .ref b)] [.ref (ad3 115)] _
    refine GN.of (g_dup hC3 12 dL_law_11 rfl rfl (GN.to ?_))
    refine n_cI (tb := TX5_init_78) hC3 hA (by decide +kernel) (fun _ => rfl) (by decide) hao (cn_X6_init l) (by decide) (fun ad => [(1, .ref (ad 0)), (0, .ref b)]) (fun ad => [.ref (ad 115)]) (fun ad' h => by simp only [h 0 (by decide)]) (fun ad' h => by simp only [h 115 (by decide)]) sw_523 sw_525 sw_65 sw_524 rfl (by decide +kernel) (by decide) (Nat.le_of_ble_eq_true rfl) (by decide) dL_law_12 15 rfl ?_
    intro ad4 q4 hC4
    have hC4 : fCx p s m #[Value.ref b] c vwCl D aC TB ad4 (fun q => s.heap.size ≤ q) goodTs code RL 4 := hC4
    show GN p l e _ s m #[Value.ref b] below meth c vwCl D aC TB ad4 _ 4 _ _ _ 15 [(1, .ref (ad4 0)), (0, .ref b)] [.ref (ad4 115)] MS
    refine GN.of (g_astore_n hC4 16 [(2, .ref (ad4 115)), (1, .ref (ad4 0)), (0, .ref b)] dL_law_15 rfl (by decide) rfl rfl (GN.to ?_))
    refine GN.of (g_iconst hC4 17 dL_law_16 rfl (GN.to ?_))
    refine GN.of (g_istore_n hC4 18 [(3, .int (fI 0)), (2, .ref (ad4 115)), (1, .ref (ad4 0)), (0, .ref b)] dL_law_17 rfl (by decide) rfl rfl (GN.to ?_))
    refine GN.of (g_lv [3, 2, 1, 0] rfl (GN.to ?_))
    obtain ⟨M', hM'⟩ := start_1 (sc := fun j => (xs j).toInt) (L := L) (fun j => ⟨by have := Int32.le_toInt (xs j); omega, by have := Int32.toInt_lt (xs j); omega⟩) hL
    intro H locs ls h1 h2 h3
    exact wk_L_law_L18 hC4 hr ⟨⟨hlocks, by decide, by decide⟩, hX, hbl, Nat.not_le.mpr hbl, by omega⟩ 600 0 MS _ hM' H locs ls h1 h2 h3
  rw [lg_entry_eq]
  exact K s.heap [] _ (lv_entry [.ref b] (Nat.le_of_ble_eq_true rfl)) (fun k q h => by cases h) va_S.rf
