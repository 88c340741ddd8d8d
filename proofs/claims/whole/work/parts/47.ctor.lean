abbrev TX0_init_0 : List fEn := [(4, 0, [(0, 0), (0, 0), (1, 0), (0, 0)])]
def M_X0_init : fMem := (fup (fup (fup (fup (fun _ _ => 0) 0 0 (-1)) 0 1 0) 0 2 0) 0 3 (-1))
set_option maxRecDepth 100000 in
set_option maxHeartbeats 8000000 in
theorem cn_X0_init (l : Launch) : fNt l vwCl (4, 0, [(0, 0), (0, 0), (1, 0), (0, 0)]) TX0_init_0 yX0_init cX0_init 1 1 12 0 0 M_X0_init := by
  refine fNt.of (by decide +kernel) rfl (by decide) (fun p e s m args below meth c D aC ad hC hr hk hin hao => ?_)
  have hA : ∀ q, s.heap.size ≤ q → fNA ad s.heap.size q := fun q h => Or.inr h
  refine GN.of (g_aload_n hC 0 1 rfl dX0_init_0 rfl rfl (GN.to ?_))
  refine n_obj hC 4 cw_144 cw_74 cw_75 dX0_init_1 rfl (by decide) ?_
  refine GN.of (g_aload_n hC 0 5 rfl dX0_init_4 rfl rfl (GN.to ?_))
  refine GN.of (g_iconst hC 6 dX0_init_5 rfl (GN.to ?_))
  refine n_putI hC 9 tyX0 tyX0_ok nmX0 inX0 rfl 0 (by decide) gw_145 rfl rfl (by decide +kernel) rfl rfl dX0_init_6 rfl ?_
  refine GN.of (g_aload_n hC 0 10 rfl dX0_init_9 rfl rfl (GN.to ?_))
  refine GN.of (g_iconst hC 11 dX0_init_10 rfl (GN.to ?_))
  refine n_putZ hC (by decide) 14 tyX0 tyX0_ok nmX0 inX0 rfl 1 (by decide) gw_147 rfl rfl (by decide +kernel) rfl rfl dX0_init_11 rfl ?_
  refine GN.of (g_aload_n hC 0 15 rfl dX0_init_14 rfl rfl (GN.to ?_))
  refine GN.of (g_lconst hC 0 16 dX0_init_15 rfl (by decide +kernel) (GN.to ?_))
  refine n_putJ hC 19 tyX0 tyX0_ok nmX0 inX0 rfl 2 (by decide) gw_149 rfl rfl (by decide +kernel) rfl rfl dX0_init_16 rfl ?_
  refine GN.of (g_aload_n hC 0 20 rfl dX0_init_19 rfl rfl (GN.to ?_))
  refine GN.of (g_iconst hC 21 dX0_init_20 rfl (GN.to ?_))
  refine n_putI hC 24 tyX0 tyX0_ok nmX0 inX0 rfl 3 (by decide) cw_151 rfl rfl (by decide +kernel) rfl rfl dX0_init_21 rfl ?_
  exact n_ret hC hr hk rfl (by decide) rfl dX0_init_24

abbrev TX2_init_0 : List fEn := [(4, 2, [(3, 0), (3, 0), (3, 0), (3, 0), (3, 0), (0, 0), (3, 0), (3, 0), (3, 0), (3, 0), (0, 0), (0, 0), (0, 0), (3, 0)]), (2, 24, [])]
abbrev TX2_init_1 : List fEn := [(4, 2, [(2, 1), (3, 0), (3, 0), (3, 0), (3, 0), (0, 0), (3, 0), (3, 0), (3, 0), (3, 0), (0, 0), (0, 0), (0, 0), (3, 0)]), (2, 24, [])]
abbrev TX2_init_2 : List fEn := [(4, 2, [(2, 1), (3, 0), (3, 0), (3, 0), (3, 0), (0, 0), (3, 0), (3, 0), (3, 0), (3, 0), (0, 0), (0, 0), (0, 0), (3, 0)]), (2, 24, []), (1, 24, [])]
abbrev TX2_init_3 : List fEn := [(4, 2, [(2, 1), (2, 2), (3, 0), (3, 0), (3, 0), (0, 0), (3, 0), (3, 0), (3, 0), (3, 0), (0, 0), (0, 0), (0, 0), (3, 0)]), (2, 24, []), (1, 24, [])]
abbrev TX2_init_4 : List fEn := [(4, 2, [(2, 1), (2, 2), (3, 0), (3, 0), (3, 0), (0, 0), (3, 0), (3, 0), (3, 0), (3, 0), (0, 0), (0, 0), (0, 0), (3, 0)]), (2, 24, []), (1, 24, []), (0, 24, [])]
abbrev TX2_init_5 : List fEn := [(4, 2, [(2, 1), (2, 2), (2, 3), (3, 0), (3, 0), (0, 0), (3, 0), (3, 0), (3, 0), (3, 0), (0, 0), (0, 0), (0, 0), (3, 0)]), (2, 24, []), (1, 24, []), (0, 24, [])]
abbrev TX2_init_6 : List fEn := [(4, 2, [(2, 1), (2, 2), (2, 3), (3, 0), (3, 0), (0, 0), (3, 0), (3, 0), (3, 0), (3, 0), (0, 0), (0, 0), (0, 0), (3, 0)]), (2, 24, []), (1, 24, []), (0, 24, []), (0, 24, [])]
abbrev TX2_init_7 : List fEn := [(4, 2, [(2, 1), (2, 2), (2, 3), (2, 4), (3, 0), (0, 0), (3, 0), (3, 0), (3, 0), (3, 0), (0, 0), (0, 0), (0, 0), (3, 0)]), (2, 24, []), (1, 24, []), (0, 24, []), (0, 24, [])]
abbrev TX2_init_8 : List fEn := [(4, 2, [(2, 1), (2, 2), (2, 3), (2, 4), (3, 0), (0, 0), (3, 0), (3, 0), (3, 0), (3, 0), (0, 0), (0, 0), (0, 0), (3, 0)]), (2, 24, []), (1, 24, []), (0, 24, []), (0, 24, []), (0, 24, [])]
abbrev TX2_init_9 : List fEn := [(4, 2, [(2, 1), (2, 2), (2, 3), (2, 4), (2, 5), (0, 0), (3, 0), (3, 0), (3, 0), (3, 0), (0, 0), (0, 0), (0, 0), (3, 0)]), (2, 24, []), (1, 24, []), (0, 24, []), (0, 24, []), (0, 24, [])]
abbrev TX2_init_10 : List fEn := [(4, 2, [(2, 1), (2, 2), (2, 3), (2, 4), (2, 5), (0, 0), (3, 0), (3, 0), (3, 0), (3, 0), (0, 0), (0, 0), (0, 0), (3, 0)]), (2, 24, []), (1, 24, []), (0, 24, []), (0, 24, []), (0, 24, []), (0, 6, [])]
abbrev TX2_init_11 : List fEn := [(4, 2, [(2, 1), (2, 2), (2, 3), (2, 4), (2, 5), (0, 0), (2, 6), (3, 0), (3, 0), (3, 0), (0, 0), (0, 0), (0, 0), (3, 0)]), (2, 24, []), (1, 24, []), (0, 24, []), (0, 24, []), (0, 24, []), (0, 6, [])]
abbrev TX2_init_12 : List fEn := [(4, 2, [(2, 1), (2, 2), (2, 3), (2, 4), (2, 5), (0, 0), (2, 6), (3, 0), (3, 0), (3, 0), (0, 0), (0, 0), (0, 0), (3, 0)]), (2, 24, []), (1, 24, []), (0, 24, []), (0, 24, []), (0, 24, []), (0, 6, []), (0, 6, [])]
abbrev TX2_init_13 : List fEn := [(4, 2, [(2, 1), (2, 2), (2, 3), (2, 4), (2, 5), (0, 0), (2, 6), (2, 7), (3, 0), (3, 0), (0, 0), (0, 0), (0, 0), (3, 0)]), (2, 24, []), (1, 24, []), (0, 24, []), (0, 24, []), (0, 24, []), (0, 6, []), (0, 6, [])]
abbrev TX2_init_14 : List fEn := [(4, 2, [(2, 1), (2, 2), (2, 3), (2, 4), (2, 5), (0, 0), (2, 6), (2, 7), (3, 0), (3, 0), (0, 0), (0, 0), (0, 0), (3, 0)]), (2, 24, []), (1, 24, []), (0, 24, []), (0, 24, []), (0, 24, []), (0, 6, []), (0, 6, []), (0, 6, [])]
abbrev TX2_init_15 : List fEn := [(4, 2, [(2, 1), (2, 2), (2, 3), (2, 4), (2, 5), (0, 0), (2, 6), (2, 7), (2, 8), (3, 0), (0, 0), (0, 0), (0, 0), (3, 0)]), (2, 24, []), (1, 24, []), (0, 24, []), (0, 24, []), (0, 24, []), (0, 6, []), (0, 6, []), (0, 6, [])]
abbrev TX2_init_16 : List fEn := [(4, 2, [(2, 1), (2, 2), (2, 3), (2, 4), (2, 5), (0, 0), (2, 6), (2, 7), (2, 8), (3, 0), (0, 0), (0, 0), (0, 0), (3, 0)]), (2, 24, []), (1, 24, []), (0, 24, []), (0, 24, []), (0, 24, []), (0, 6, []), (0, 6, []), (0, 6, []), (0, 6, [])]
abbrev TX2_init_17 : List fEn := [(4, 2, [(2, 1), (2, 2), (2, 3), (2, 4), (2, 5), (0, 0), (2, 6), (2, 7), (2, 8), (2, 9), (0, 0), (0, 0), (0, 0), (3, 0)]), (2, 24, []), (1, 24, []), (0, 24, []), (0, 24, []), (0, 24, []), (0, 6, []), (0, 6, []), (0, 6, []), (0, 6, [])]
abbrev TX2_init_18 : List fEn := [(4, 2, [(2, 1), (2, 2), (2, 3), (2, 4), (2, 5), (0, 0), (2, 6), (2, 7), (2, 8), (2, 9), (0, 0), (0, 0), (0, 0), (3, 0)]), (2, 24, []), (1, 24, []), (0, 24, []), (0, 24, []), (0, 24, []), (0, 6, []), (0, 6, []), (0, 6, []), (0, 6, []), (0, 5, [])]
abbrev TX2_init_19 : List fEn := [(4, 2, [(2, 1), (2, 2), (2, 3), (2, 4), (2, 5), (0, 0), (2, 6), (2, 7), (2, 8), (2, 9), (0, 0), (0, 0), (0, 0), (2, 10)]), (2, 24, []), (1, 24, []), (0, 24, []), (0, 24, []), (0, 24, []), (0, 6, []), (0, 6, []), (0, 6, []), (0, 6, []), (0, 5, [])]
abbrev TX2_init_20 : List fEn := [(4, 2, [(2, 1), (2, 2), (2, 3), (2, 4), (2, 5), (0, 0), (2, 6), (2, 7), (2, 8), (2, 9), (0, 0), (0, 0), (0, 0), (2, 10)]), (2, 24, []), (1, 24, []), (0, 24, []), (0, 24, []), (0, 24, []), (0, 6, []), (0, 6, []), (0, 6, []), (0, 6, []), (0, 5, [])]
def M_X2_init : fMem := (fun p j => if p = 10 ∧ j < 5 then (-1) else (fup (fup (fup (fup (fup (fup (fup (fun _ _ => 0) 0 5 0) 0 10 1) 0 11 (-1)) 0 12 0) 6 0 (-1)) 7 0 1) 9 0 (-1)) p j)
set_option maxRecDepth 100000 in
set_option maxHeartbeats 8000000 in
theorem cn_X2_init (l : Launch) : fNt l vwCl (4, 2, [(3, 0), (3, 0), (3, 0), (3, 0), (3, 0), (0, 0), (3, 0), (3, 0), (3, 0), (3, 0), (0, 0), (0, 0), (0, 0), (3, 0)]) TX2_init_20 yX2_init cX2_init 1 1 23 10 149 M_X2_init := by
  refine fNt.of (by decide +kernel) rfl (by decide) (fun p e s m args below meth c D aC ad hC hr hk hin hao => ?_)
  have hA : ∀ q, s.heap.size ≤ q → fNA ad s.heap.size q := fun q h => Or.inr h
  refine GN.of (g_aload_n hC 0 1 rfl dX2_init_0 rfl rfl (GN.to ?_))
  refine n_obj hC 4 cw_82 cw_74 cw_75 dX2_init_1 rfl (by decide) ?_
  refine GN.of (g_aload_n hC 0 5 rfl dX2_init_4 rfl rfl (GN.to ?_))
  refine GN.of (g_bipush hC 7 dX2_init_5 rfl (by decide +kernel) (GN.to ?_))
  refine n_newJ hC hA (by decide +kernel) 24 (fun _ => rfl) (fun ad => [(0, .ref (ad 0))]) (fun ad => [.ref (ad 0)]) (fun ad' h => by simp only [h 0 (by decide)]) (fun ad' h => by simp only [h 0 (by decide)]) cw_135 (by decide) (by decide) (by decide) dX2_init_7 9 rfl ?_
  intro ad1 q1 hC1
  have hC1 : fCx p s m args c vwCl D aC TX2_init_0 ad1 (fNA ad s.heap.size) goodTs cX2_init RX2 1 := hC1
  have z1 : ad1 0 = ad 0 := (q1 0 (by decide)).trans rfl
  show GN p l e _ s m args below meth c vwCl D aC TX2_init_0 ad1 (fNA ad s.heap.size) 1 _ _ _ 9 [(0, .ref (ad1 0))] [.ref (ad1 1), .ref (ad1 0)] _
  refine n_putR (ty := .array .long) hC1 12 TX2_init_1 tyX2 tyX2_ok nmX2 inX2 rfl 0 (by decide) gw_86 rfl rfl hin rfl (by decide +kernel) (fun _ => rfl) (fun _ => rfl) rfl (by decide) rfl dX2_init_9 rfl ?_
  intro hC2
  refine GN.of (g_aload_n hC2 0 13 rfl dX2_init_12 rfl rfl (GN.to ?_))
  refine GN.of (g_bipush hC2 15 dX2_init_13 rfl (by decide +kernel) (GN.to ?_))
  refine n_newZ hC2 hA (by decide +kernel) 24 (fun _ => rfl) (fun ad => [(0, .ref (ad 0))]) (fun ad => [.ref (ad 0)]) (fun ad' h => by simp only [h 0 (by decide)]) (fun ad' h => by simp only [h 0 (by decide)]) cw_136 (by decide) (by decide) (by decide) dX2_init_15 17 rfl ?_
  intro ad3 q3 hC3
  have hC3 : fCx p s m args c vwCl D aC TX2_init_2 ad3 (fNA ad s.heap.size) goodTs cX2_init RX2 1 := hC3
  have z3 : ad3 0 = ad 0 := (q3 0 (by decide)).trans z1
  show GN p l e _ s m args below meth c vwCl D aC TX2_init_2 ad3 (fNA ad s.heap.size) 1 _ _ _ 17 [(0, .ref (ad3 0))] [.ref (ad3 2), .ref (ad3 0)] _
  refine n_putR (ty := .array .boolean) hC3 20 TX2_init_3 tyX2 tyX2_ok nmX2 inX2 rfl 1 (by decide) gw_88 rfl rfl hin rfl (by decide +kernel) (fun _ => rfl) (fun _ => rfl) rfl (by decide) rfl dX2_init_17 rfl ?_
  intro hC4
  refine GN.of (g_aload_n hC4 0 21 rfl dX2_init_20 rfl rfl (GN.to ?_))
  refine GN.of (g_bipush hC4 23 dX2_init_21 rfl (by decide +kernel) (GN.to ?_))
  refine n_newI hC4 hA (by decide +kernel) 24 (fun _ => rfl) (fun ad => [(0, .ref (ad 0))]) (fun ad => [.ref (ad 0)]) (fun ad' h => by simp only [h 0 (by decide)]) (fun ad' h => by simp only [h 0 (by decide)]) cw_137 (by decide) (by decide) (by decide) dX2_init_23 25 rfl ?_
  intro ad5 q5 hC5
  have hC5 : fCx p s m args c vwCl D aC TX2_init_4 ad5 (fNA ad s.heap.size) goodTs cX2_init RX2 1 := hC5
  have z5 : ad5 0 = ad 0 := (q5 0 (by decide)).trans z3
  show GN p l e _ s m args below meth c vwCl D aC TX2_init_4 ad5 (fNA ad s.heap.size) 1 _ _ _ 25 [(0, .ref (ad5 0))] [.ref (ad5 3), .ref (ad5 0)] _
  refine n_putR (ty := .array .int) hC5 28 TX2_init_5 tyX2 tyX2_ok nmX2 inX2 rfl 2 (by decide) gw_90 rfl rfl hin rfl (by decide +kernel) (fun _ => rfl) (fun _ => rfl) rfl (by decide) rfl dX2_init_25 rfl ?_
  intro hC6
  refine GN.of (g_aload_n hC6 0 29 rfl dX2_init_28 rfl rfl (GN.to ?_))
  refine GN.of (g_bipush hC6 31 dX2_init_29 rfl (by decide +kernel) (GN.to ?_))
  refine n_newI hC6 hA (by decide +kernel) 24 (fun _ => rfl) (fun ad => [(0, .ref (ad 0))]) (fun ad => [.ref (ad 0)]) (fun ad' h => by simp only [h 0 (by decide)]) (fun ad' h => by simp only [h 0 (by decide)]) cw_137 (by decide) (by decide) (by decide) dX2_init_31 33 rfl ?_
  intro ad7 q7 hC7
  have hC7 : fCx p s m args c vwCl D aC TX2_init_6 ad7 (fNA ad s.heap.size) goodTs cX2_init RX2 1 := hC7
  have z7 : ad7 0 = ad 0 := (q7 0 (by decide)).trans z5
  show GN p l e _ s m args below meth c vwCl D aC TX2_init_6 ad7 (fNA ad s.heap.size) 1 _ _ _ 33 [(0, .ref (ad7 0))] [.ref (ad7 4), .ref (ad7 0)] _
  refine n_putR (ty := .array .int) hC7 36 TX2_init_7 tyX2 tyX2_ok nmX2 inX2 rfl 3 (by decide) gw_91 rfl rfl hin rfl (by decide +kernel) (fun _ => rfl) (fun _ => rfl) rfl (by decide) rfl dX2_init_33 rfl ?_
  intro hC8
  refine GN.of (g_aload_n hC8 0 37 rfl dX2_init_36 rfl rfl (GN.to ?_))
  refine GN.of (g_bipush hC8 39 dX2_init_37 rfl (by decide +kernel) (GN.to ?_))
  refine n_newI hC8 hA (by decide +kernel) 24 (fun _ => rfl) (fun ad => [(0, .ref (ad 0))]) (fun ad => [.ref (ad 0)]) (fun ad' h => by simp only [h 0 (by decide)]) (fun ad' h => by simp only [h 0 (by decide)]) cw_137 (by decide) (by decide) (by decide) dX2_init_39 41 rfl ?_
  intro ad9 q9 hC9
  have hC9 : fCx p s m args c vwCl D aC TX2_init_8 ad9 (fNA ad s.heap.size) goodTs cX2_init RX2 1 := hC9
  have z9 : ad9 0 = ad 0 := (q9 0 (by decide)).trans z7
  show GN p l e _ s m args below meth c vwCl D aC TX2_init_8 ad9 (fNA ad s.heap.size) 1 _ _ _ 41 [(0, .ref (ad9 0))] [.ref (ad9 5), .ref (ad9 0)] _
  refine n_putR (ty := .array .int) hC9 44 TX2_init_9 tyX2 tyX2_ok nmX2 inX2 rfl 4 (by decide) gw_92 rfl rfl hin rfl (by decide +kernel) (fun _ => rfl) (fun _ => rfl) rfl (by decide) rfl dX2_init_41 rfl ?_
  intro hC10
  refine GN.of (g_aload_n hC10 0 45 rfl dX2_init_44 rfl rfl (GN.to ?_))
  refine GN.of (g_iconst hC10 46 dX2_init_45 rfl (GN.to ?_))
  refine n_putI hC10 49 tyX2 tyX2_ok nmX2 inX2 rfl 5 (by decide) gw_93 rfl rfl (by decide +kernel) rfl rfl dX2_init_46 rfl ?_
  refine GN.of (g_aload_n hC10 0 50 rfl dX2_init_49 rfl rfl (GN.to ?_))
  refine GN.of (g_bipush hC10 52 dX2_init_50 rfl (by decide +kernel) (GN.to ?_))
  refine n_newI hC10 hA (by decide +kernel) 6 (fun _ => rfl) (fun ad => [(0, .ref (ad 0))]) (fun ad => [.ref (ad 0)]) (fun ad' h => by simp only [h 0 (by decide)]) (fun ad' h => by simp only [h 0 (by decide)]) cw_137 (by decide) (by decide) (by decide) dX2_init_52 54 rfl ?_
  intro ad11 q11 hC11
  have hC11 : fCx p s m args c vwCl D aC TX2_init_10 ad11 (fNA ad s.heap.size) goodTs cX2_init RX2 1 := hC11
  have z11 : ad11 0 = ad 0 := (q11 0 (by decide)).trans z9
  show GN p l e _ s m args below meth c vwCl D aC TX2_init_10 ad11 (fNA ad s.heap.size) 1 _ _ _ 54 [(0, .ref (ad11 0))] [.ref (ad11 6), .ref (ad11 0)] _
  refine n_putR (ty := .array .int) hC11 57 TX2_init_11 tyX2 tyX2_ok nmX2 inX2 rfl 6 (by decide) gw_95 rfl rfl hin rfl (by decide +kernel) (fun _ => rfl) (fun _ => rfl) rfl (by decide) rfl dX2_init_54 rfl ?_
  intro hC12
  refine GN.of (g_aload_n hC12 0 58 rfl dX2_init_57 rfl rfl (GN.to ?_))
  refine GN.of (g_bipush hC12 60 dX2_init_58 rfl (by decide +kernel) (GN.to ?_))
  refine n_newI hC12 hA (by decide +kernel) 6 (fun _ => rfl) (fun ad => [(0, .ref (ad 0))]) (fun ad => [.ref (ad 0)]) (fun ad' h => by simp only [h 0 (by decide)]) (fun ad' h => by simp only [h 0 (by decide)]) cw_137 (by decide) (by decide) (by decide) dX2_init_60 62 rfl ?_
  intro ad13 q13 hC13
  have hC13 : fCx p s m args c vwCl D aC TX2_init_12 ad13 (fNA ad s.heap.size) goodTs cX2_init RX2 1 := hC13
  have z13 : ad13 0 = ad 0 := (q13 0 (by decide)).trans z11
  show GN p l e _ s m args below meth c vwCl D aC TX2_init_12 ad13 (fNA ad s.heap.size) 1 _ _ _ 62 [(0, .ref (ad13 0))] [.ref (ad13 7), .ref (ad13 0)] _
  refine n_putR (ty := .array .int) hC13 65 TX2_init_13 tyX2 tyX2_ok nmX2 inX2 rfl 7 (by decide) gw_96 rfl rfl hin rfl (by decide +kernel) (fun _ => rfl) (fun _ => rfl) rfl (by decide) rfl dX2_init_62 rfl ?_
  intro hC14
  refine GN.of (g_aload_n hC14 0 66 rfl dX2_init_65 rfl rfl (GN.to ?_))
  refine GN.of (g_bipush hC14 68 dX2_init_66 rfl (by decide +kernel) (GN.to ?_))
  refine n_newI hC14 hA (by decide +kernel) 6 (fun _ => rfl) (fun ad => [(0, .ref (ad 0))]) (fun ad => [.ref (ad 0)]) (fun ad' h => by simp only [h 0 (by decide)]) (fun ad' h => by simp only [h 0 (by decide)]) cw_137 (by decide) (by decide) (by decide) dX2_init_68 70 rfl ?_
  intro ad15 q15 hC15
  have hC15 : fCx p s m args c vwCl D aC TX2_init_14 ad15 (fNA ad s.heap.size) goodTs cX2_init RX2 1 := hC15
  have z15 : ad15 0 = ad 0 := (q15 0 (by decide)).trans z13
  show GN p l e _ s m args below meth c vwCl D aC TX2_init_14 ad15 (fNA ad s.heap.size) 1 _ _ _ 70 [(0, .ref (ad15 0))] [.ref (ad15 8), .ref (ad15 0)] _
  refine n_putR (ty := .array .int) hC15 73 TX2_init_15 tyX2 tyX2_ok nmX2 inX2 rfl 8 (by decide) gw_97 rfl rfl hin rfl (by decide +kernel) (fun _ => rfl) (fun _ => rfl) rfl (by decide) rfl dX2_init_70 rfl ?_
  intro hC16
  refine GN.of (g_aload_n hC16 0 74 rfl dX2_init_73 rfl rfl (GN.to ?_))
  refine GN.of (g_bipush hC16 76 dX2_init_74 rfl (by decide +kernel) (GN.to ?_))
  refine n_newI hC16 hA (by decide +kernel) 6 (fun _ => rfl) (fun ad => [(0, .ref (ad 0))]) (fun ad => [.ref (ad 0)]) (fun ad' h => by simp only [h 0 (by decide)]) (fun ad' h => by simp only [h 0 (by decide)]) cw_137 (by decide) (by decide) (by decide) dX2_init_76 78 rfl ?_
  intro ad17 q17 hC17
  have hC17 : fCx p s m args c vwCl D aC TX2_init_16 ad17 (fNA ad s.heap.size) goodTs cX2_init RX2 1 := hC17
  have z17 : ad17 0 = ad 0 := (q17 0 (by decide)).trans z15
  show GN p l e _ s m args below meth c vwCl D aC TX2_init_16 ad17 (fNA ad s.heap.size) 1 _ _ _ 78 [(0, .ref (ad17 0))] [.ref (ad17 9), .ref (ad17 0)] _
  refine n_putR (ty := .array .int) hC17 81 TX2_init_17 tyX2 tyX2_ok nmX2 inX2 rfl 9 (by decide) gw_98 rfl rfl hin rfl (by decide +kernel) (fun _ => rfl) (fun _ => rfl) rfl (by decide) rfl dX2_init_78 rfl ?_
  intro hC18
  refine GN.of (g_aload_n hC18 0 82 rfl dX2_init_81 rfl rfl (GN.to ?_))
  refine GN.of (g_iconst hC18 83 dX2_init_82 rfl (GN.to ?_))
  refine n_putI hC18 86 tyX2 tyX2_ok nmX2 inX2 rfl 10 (by decide) gw_99 rfl rfl (by decide +kernel) rfl rfl dX2_init_83 rfl ?_
  refine GN.of (g_aload_n hC18 0 87 rfl dX2_init_86 rfl rfl (GN.to ?_))
  refine GN.of (g_iconst hC18 88 dX2_init_87 rfl (GN.to ?_))
  refine n_putI hC18 91 tyX2 tyX2_ok nmX2 inX2 rfl 11 (by decide) gw_100 rfl rfl (by decide +kernel) rfl rfl dX2_init_88 rfl ?_
  refine GN.of (g_aload_n hC18 0 92 rfl dX2_init_91 rfl rfl (GN.to ?_))
  refine GN.of (g_iconst hC18 93 dX2_init_92 rfl (GN.to ?_))
  refine n_putI hC18 96 tyX2 tyX2_ok nmX2 inX2 rfl 12 (by decide) cw_102 rfl rfl (by decide +kernel) rfl rfl dX2_init_93 rfl ?_
  refine GN.of (g_aload_n hC18 0 97 rfl dX2_init_96 rfl rfl (GN.to ?_))
  refine GN.of (g_iconst hC18 98 dX2_init_97 rfl (GN.to ?_))
  refine n_newI hC18 hA (by decide +kernel) 5 (fun _ => rfl) (fun ad => [(0, .ref (ad 0))]) (fun ad => [.ref (ad 0)]) (fun ad' h => by simp only [h 0 (by decide)]) (fun ad' h => by simp only [h 0 (by decide)]) cw_137 (by decide) (by decide) (by decide) dX2_init_98 100 rfl ?_
  intro ad19 q19 hC19
  have hC19 : fCx p s m args c vwCl D aC TX2_init_18 ad19 (fNA ad s.heap.size) goodTs cX2_init RX2 1 := hC19
  have z19 : ad19 0 = ad 0 := (q19 0 (by decide)).trans z17
  show GN p l e _ s m args below meth c vwCl D aC TX2_init_18 ad19 (fNA ad s.heap.size) 1 _ _ _ 100 [(0, .ref (ad19 0))] [.ref (ad19 10), .ref (ad19 0)] _
  refine n_putR (ty := .array .int) hC19 103 TX2_init_19 tyX2 tyX2_ok nmX2 inX2 rfl 13 (by decide) cw_104 rfl rfl hin rfl (by decide +kernel) (fun _ => rfl) (fun _ => rfl) rfl (by decide) rfl dX2_init_100 rfl ?_
  intro hC20
  refine GN.of (g_aload_n hC20 0 104 rfl dX2_init_103 rfl rfl (GN.to ?_))
  refine GN.of (g_getA hC20 107 inX2 rfl 6 (by decide) gw_95 rfl rfl rfl dX2_init_104 rfl (GN.to ?_))
  refine GN.of (g_iconst hC20 108 dX2_init_107 rfl (GN.to ?_))
  refine GN.of (g_iconst hC20 109 dX2_init_108 rfl (GN.to ?_))
  refine n_iast hC20 (by decide) 110 rfl (by decide) dX2_init_109 rfl ?_
  refine GN.of (g_aload_n hC20 0 111 rfl dX2_init_110 rfl rfl (GN.to ?_))
  refine GN.of (g_getA hC20 114 inX2 rfl 7 (by decide) gw_96 rfl rfl rfl dX2_init_111 rfl (GN.to ?_))
  refine GN.of (g_iconst hC20 115 dX2_init_114 rfl (GN.to ?_))
  refine GN.of (g_iconst hC20 116 dX2_init_115 rfl (GN.to ?_))
  refine n_iast hC20 (by decide) 117 rfl (by decide) dX2_init_116 rfl ?_
  refine GN.of (g_aload_n hC20 0 118 rfl dX2_init_117 rfl rfl (GN.to ?_))
  refine GN.of (g_getA hC20 121 inX2 rfl 9 (by decide) gw_98 rfl rfl rfl dX2_init_118 rfl (GN.to ?_))
  refine GN.of (g_iconst hC20 122 dX2_init_121 rfl (GN.to ?_))
  refine GN.of (g_iconst hC20 123 dX2_init_122 rfl (GN.to ?_))
  refine n_iast hC20 (by decide) 124 rfl (by decide) dX2_init_123 rfl ?_
  refine GN.of (g_aload_n hC20 0 125 rfl dX2_init_124 rfl rfl (GN.to ?_))
  refine GN.of (g_getA hC20 128 inX2 rfl 13 (by decide) cw_104 rfl rfl rfl dX2_init_125 rfl (GN.to ?_))
  refine GN.of (g_iconst hC20 129 dX2_init_128 rfl (GN.to ?_))
  refine n_fill hC20 132 rfl (by decide) cw_83 gw_85 gw_61 gw_84 (by decide) (by decide) dX2_init_129 rfl ?_
  exact n_ret hC20 hr hk z19 (by decide) rfl dX2_init_132

abbrev TX1_init_0 : List fEn := [(4, 1, [(3, 0), (3, 0), (0, 0), (0, 0), (3, 0), (3, 0), (0, 0)]), (0, 12, [])]
abbrev TX1_init_1 : List fEn := [(4, 1, [(2, 1), (3, 0), (0, 0), (0, 0), (3, 0), (3, 0), (0, 0)]), (0, 12, [])]
abbrev TX1_init_2 : List fEn := [(4, 1, [(2, 1), (3, 0), (0, 0), (0, 0), (3, 0), (3, 0), (0, 0)]), (0, 12, []), (0, 12, [])]
abbrev TX1_init_3 : List fEn := [(4, 1, [(2, 1), (2, 2), (0, 0), (0, 0), (3, 0), (3, 0), (0, 0)]), (0, 12, []), (0, 12, [])]
abbrev TX1_init_4 : List fEn := [(4, 1, [(2, 1), (2, 2), (0, 0), (0, 0), (3, 0), (3, 0), (0, 0)]), (0, 12, []), (0, 12, []), (3, 5, [(2, 4), (2, 5), (2, 6), (2, 7), (2, 8), (2, 9), (2, 10), (2, 11), (2, 12), (2, 13), (2, 14), (2, 15), (2, 16)]), (0, 13, []), (0, 13, []), (0, 13, []), (0, 13, []), (0, 13, []), (0, 13, []), (0, 13, []), (0, 13, []), (0, 13, []), (0, 13, []), (0, 13, []), (0, 13, []), (0, 13, [])]
abbrev TX1_init_5 : List fEn := [(4, 1, [(2, 1), (2, 2), (0, 0), (0, 0), (2, 3), (3, 0), (0, 0)]), (0, 12, []), (0, 12, []), (3, 5, [(2, 4), (2, 5), (2, 6), (2, 7), (2, 8), (2, 9), (2, 10), (2, 11), (2, 12), (2, 13), (2, 14), (2, 15), (2, 16)]), (0, 13, []), (0, 13, []), (0, 13, []), (0, 13, []), (0, 13, []), (0, 13, []), (0, 13, []), (0, 13, []), (0, 13, []), (0, 13, []), (0, 13, []), (0, 13, []), (0, 13, [])]
abbrev TX1_init_6 : List fEn := [(4, 1, [(2, 1), (2, 2), (0, 0), (0, 0), (2, 3), (3, 0), (0, 0)]), (0, 12, []), (0, 12, []), (3, 5, [(2, 4), (2, 5), (2, 6), (2, 7), (2, 8), (2, 9), (2, 10), (2, 11), (2, 12), (2, 13), (2, 14), (2, 15), (2, 16)]), (0, 13, []), (0, 13, []), (0, 13, []), (0, 13, []), (0, 13, []), (0, 13, []), (0, 13, []), (0, 13, []), (0, 13, []), (0, 13, []), (0, 13, []), (0, 13, []), (0, 13, []), (0, 12, [])]
abbrev TX1_init_7 : List fEn := [(4, 1, [(2, 1), (2, 2), (0, 0), (0, 0), (2, 3), (2, 17), (0, 0)]), (0, 12, []), (0, 12, []), (3, 5, [(2, 4), (2, 5), (2, 6), (2, 7), (2, 8), (2, 9), (2, 10), (2, 11), (2, 12), (2, 13), (2, 14), (2, 15), (2, 16)]), (0, 13, []), (0, 13, []), (0, 13, []), (0, 13, []), (0, 13, []), (0, 13, []), (0, 13, []), (0, 13, []), (0, 13, []), (0, 13, []), (0, 13, []), (0, 13, []), (0, 13, []), (0, 12, [])]
abbrev TX1_init_8 : List fEn := [(4, 1, [(2, 1), (2, 2), (0, 0), (0, 0), (2, 3), (2, 17), (0, 0)]), (0, 12, []), (0, 12, []), (3, 5, [(2, 4), (2, 5), (2, 6), (2, 7), (2, 8), (2, 9), (2, 10), (2, 11), (2, 12), (2, 13), (2, 14), (2, 15), (2, 16)]), (0, 13, []), (0, 13, []), (0, 13, []), (0, 13, []), (0, 13, []), (0, 13, []), (0, 13, []), (0, 13, []), (0, 13, []), (0, 13, []), (0, 13, []), (0, 13, []), (0, 13, []), (0, 12, [])]
def M_X1_init : fMem := (fup (jM 3 (fup (fup (fun _ _ => 0) 0 2 0) 0 3 0) (fun _ _ => 0)) 0 6 0)
set_option maxRecDepth 100000 in
set_option maxHeartbeats 8000000 in
theorem cn_X1_init (l : Launch) : fNt l vwCl (4, 1, [(3, 0), (3, 0), (0, 0), (0, 0), (3, 0), (3, 0), (0, 0)]) TX1_init_8 yX1_init cX1_init 1 1 12 17 218 M_X1_init := by
  refine fNt.of (by decide +kernel) rfl (by decide) (fun p e s m args below meth c D aC ad hC hr hk hin hao => ?_)
  have hA : ∀ q, s.heap.size ≤ q → fNA ad s.heap.size q := fun q h => Or.inr h
  refine GN.of (g_aload_n hC 0 1 rfl dX1_init_0 rfl rfl (GN.to ?_))
  refine n_obj hC 4 cw_167 cw_74 cw_75 dX1_init_1 rfl (by decide) ?_
  refine GN.of (g_aload_n hC 0 5 rfl dX1_init_4 rfl rfl (GN.to ?_))
  refine GN.of (g_bipush hC 7 dX1_init_5 rfl (by decide +kernel) (GN.to ?_))
  refine n_newI hC hA (by decide +kernel) 12 (fun _ => rfl) (fun ad => [(0, .ref (ad 0))]) (fun ad => [.ref (ad 0)]) (fun ad' h => by simp only [h 0 (by decide)]) (fun ad' h => by simp only [h 0 (by decide)]) cw_137 (by decide) (by decide) (by decide) dX1_init_7 9 rfl ?_
  intro ad1 q1 hC1
  have hC1 : fCx p s m args c vwCl D aC TX1_init_0 ad1 (fNA ad s.heap.size) goodTs cX1_init RX1 1 := hC1
  have z1 : ad1 0 = ad 0 := (q1 0 (by decide)).trans rfl
  show GN p l e _ s m args below meth c vwCl D aC TX1_init_0 ad1 (fNA ad s.heap.size) 1 _ _ _ 9 [(0, .ref (ad1 0))] [.ref (ad1 1), .ref (ad1 0)] _
  refine n_putR (ty := .array .int) hC1 12 TX1_init_1 tyX1 tyX1_ok nmX1 inX1 rfl 0 (by decide) gw_170 rfl rfl hin rfl (by decide +kernel) (fun _ => rfl) (fun _ => rfl) rfl (by decide) rfl dX1_init_9 rfl ?_
  intro hC2
  refine GN.of (g_aload_n hC2 0 13 rfl dX1_init_12 rfl rfl (GN.to ?_))
  refine GN.of (g_bipush hC2 15 dX1_init_13 rfl (by decide +kernel) (GN.to ?_))
  refine n_newI hC2 hA (by decide +kernel) 12 (fun _ => rfl) (fun ad => [(0, .ref (ad 0))]) (fun ad => [.ref (ad 0)]) (fun ad' h => by simp only [h 0 (by decide)]) (fun ad' h => by simp only [h 0 (by decide)]) cw_137 (by decide) (by decide) (by decide) dX1_init_15 17 rfl ?_
  intro ad3 q3 hC3
  have hC3 : fCx p s m args c vwCl D aC TX1_init_2 ad3 (fNA ad s.heap.size) goodTs cX1_init RX1 1 := hC3
  have z3 : ad3 0 = ad 0 := (q3 0 (by decide)).trans z1
  show GN p l e _ s m args below meth c vwCl D aC TX1_init_2 ad3 (fNA ad s.heap.size) 1 _ _ _ 17 [(0, .ref (ad3 0))] [.ref (ad3 2), .ref (ad3 0)] _
  refine n_putR (ty := .array .int) hC3 20 TX1_init_3 tyX1 tyX1_ok nmX1 inX1 rfl 1 (by decide) gw_172 rfl rfl hin rfl (by decide +kernel) (fun _ => rfl) (fun _ => rfl) rfl (by decide) rfl dX1_init_17 rfl ?_
  intro hC4
  refine GN.of (g_aload_n hC4 0 21 rfl dX1_init_20 rfl rfl (GN.to ?_))
  refine GN.of (g_iconst hC4 22 dX1_init_21 rfl (GN.to ?_))
  refine n_putI hC4 25 tyX1 tyX1_ok nmX1 inX1 rfl 2 (by decide) gw_174 rfl rfl (by decide +kernel) rfl rfl dX1_init_22 rfl ?_
  refine GN.of (g_aload_n hC4 0 26 rfl dX1_init_25 rfl rfl (GN.to ?_))
  refine GN.of (g_iconst hC4 27 dX1_init_26 rfl (GN.to ?_))
  refine n_putI hC4 30 tyX1 tyX1_ok nmX1 inX1 rfl 3 (by decide) gw_176 rfl rfl (by decide +kernel) rfl rfl dX1_init_27 rfl ?_
  refine GN.of (g_aload_n hC4 0 31 rfl dX1_init_30 rfl rfl (GN.to ?_))
  refine GN.of (g_bipush hC4 33 dX1_init_31 rfl (by decide +kernel) (GN.to ?_))
  refine GN.of (g_bipush hC4 35 dX1_init_33 rfl (by decide +kernel) (GN.to ?_))
  refine n_mna hC4 hA (by decide +kernel) 13 13 hao (fun ad => [(0, .ref (ad 0))]) (fun ad => [.ref (ad 0)]) (fun ad' h => by simp only [h 0 (by decide)]) (fun ad' h => by simp only [h 0 (by decide)]) cw_168 cw_137 (by decide) (by decide) (by decide) (by decide) dX1_init_35 39 rfl ?_
  intro ad5 q5 hC5
  have hC5 : fCx p s m args c vwCl D aC TX1_init_4 ad5 (fNA ad s.heap.size) goodTs cX1_init RX1 1 := hC5
  have z5 : ad5 0 = ad 0 := (q5 0 (by decide)).trans z3
  show GN p l e _ s m args below meth c vwCl D aC TX1_init_4 ad5 (fNA ad s.heap.size) 1 _ _ _ 39 [(0, .ref (ad5 0))] [.ref (ad5 3), .ref (ad5 0)] _
  refine n_putR (ty := .array (.array .int)) hC5 42 TX1_init_5 tyX1 tyX1_ok nmX1 inX1 rfl 4 (by decide) gw_178 rfl rfl hin rfl (by decide +kernel) (fun _ => rfl) (fun _ => rfl) rfl (by decide) rfl dX1_init_39 rfl ?_
  intro hC6
  refine GN.of (g_aload_n hC6 0 43 rfl dX1_init_42 rfl rfl (GN.to ?_))
  refine GN.of (g_bipush hC6 45 dX1_init_43 rfl (by decide +kernel) (GN.to ?_))
  refine n_newI hC6 hA (by decide +kernel) 12 (fun _ => rfl) (fun ad => [(0, .ref (ad 0))]) (fun ad => [.ref (ad 0)]) (fun ad' h => by simp only [h 0 (by decide)]) (fun ad' h => by simp only [h 0 (by decide)]) cw_137 (by decide) (by decide) (by decide) dX1_init_45 47 rfl ?_
  intro ad7 q7 hC7
  have hC7 : fCx p s m args c vwCl D aC TX1_init_6 ad7 (fNA ad s.heap.size) goodTs cX1_init RX1 1 := hC7
  have z7 : ad7 0 = ad 0 := (q7 0 (by decide)).trans z5
  show GN p l e _ s m args below meth c vwCl D aC TX1_init_6 ad7 (fNA ad s.heap.size) 1 _ _ _ 47 [(0, .ref (ad7 0))] [.ref (ad7 17), .ref (ad7 0)] _
  refine n_putR (ty := .array .int) hC7 50 TX1_init_7 tyX1 tyX1_ok nmX1 inX1 rfl 5 (by decide) gw_179 rfl rfl hin rfl (by decide +kernel) (fun _ => rfl) (fun _ => rfl) rfl (by decide) rfl dX1_init_47 rfl ?_
  intro hC8
  refine GN.of (g_aload_n hC8 0 51 rfl dX1_init_50 rfl rfl (GN.to ?_))
  refine GN.of (g_iconst hC8 52 dX1_init_51 rfl (GN.to ?_))
  refine n_putI hC8 55 tyX1 tyX1_ok nmX1 inX1 rfl 6 (by decide) gw_181 rfl rfl (by decide +kernel) rfl rfl dX1_init_52 rfl ?_
  exact n_ret hC8 hr hk z7 (by decide) rfl dX1_init_55

abbrev TX3_init_0 : List fEn := [(4, 3, [(3, 0), (3, 0), (1, 0), (0, 0), (0, 0)]), (4, 1, [(3, 0), (3, 0), (0, 0), (0, 0), (3, 0), (3, 0), (0, 0)])]
abbrev TX3_init_p1 : List fEn := [(4, 3, [(3, 0), (3, 0), (1, 0), (0, 0), (0, 0)])]
abbrev TX3_init_2 : List fEn := [(4, 3, [(3, 0), (3, 0), (1, 0), (0, 0), (0, 0)]), (4, 1, [(2, 2), (2, 3), (0, 0), (0, 0), (2, 4), (2, 18), (0, 0)]), (0, 12, []), (0, 12, []), (3, 5, [(2, 5), (2, 6), (2, 7), (2, 8), (2, 9), (2, 10), (2, 11), (2, 12), (2, 13), (2, 14), (2, 15), (2, 16), (2, 17)]), (0, 13, []), (0, 13, []), (0, 13, []), (0, 13, []), (0, 13, []), (0, 13, []), (0, 13, []), (0, 13, []), (0, 13, []), (0, 13, []), (0, 13, []), (0, 13, []), (0, 13, []), (0, 12, [])]
abbrev TX3_init_3 : List fEn := [(4, 3, [(2, 1), (3, 0), (1, 0), (0, 0), (0, 0)]), (4, 1, [(2, 2), (2, 3), (0, 0), (0, 0), (2, 4), (2, 18), (0, 0)]), (0, 12, []), (0, 12, []), (3, 5, [(2, 5), (2, 6), (2, 7), (2, 8), (2, 9), (2, 10), (2, 11), (2, 12), (2, 13), (2, 14), (2, 15), (2, 16), (2, 17)]), (0, 13, []), (0, 13, []), (0, 13, []), (0, 13, []), (0, 13, []), (0, 13, []), (0, 13, []), (0, 13, []), (0, 13, []), (0, 13, []), (0, 13, []), (0, 13, []), (0, 13, []), (0, 12, [])]
abbrev TX3_init_4 : List fEn := [(4, 3, [(2, 1), (3, 0), (1, 0), (0, 0), (0, 0)]), (4, 1, [(2, 2), (2, 3), (0, 0), (0, 0), (2, 4), (2, 18), (0, 0)]), (0, 12, []), (0, 12, []), (3, 5, [(2, 5), (2, 6), (2, 7), (2, 8), (2, 9), (2, 10), (2, 11), (2, 12), (2, 13), (2, 14), (2, 15), (2, 16), (2, 17)]), (0, 13, []), (0, 13, []), (0, 13, []), (0, 13, []), (0, 13, []), (0, 13, []), (0, 13, []), (0, 13, []), (0, 13, []), (0, 13, []), (0, 13, []), (0, 13, []), (0, 13, []), (0, 12, []), (4, 1, [(3, 0), (3, 0), (0, 0), (0, 0), (3, 0), (3, 0), (0, 0)])]
abbrev TX3_init_p5 : List fEn := [(4, 3, [(2, 1), (3, 0), (1, 0), (0, 0), (0, 0)]), (4, 1, [(2, 2), (2, 3), (0, 0), (0, 0), (2, 4), (2, 18), (0, 0)]), (0, 12, []), (0, 12, []), (3, 5, [(2, 5), (2, 6), (2, 7), (2, 8), (2, 9), (2, 10), (2, 11), (2, 12), (2, 13), (2, 14), (2, 15), (2, 16), (2, 17)]), (0, 13, []), (0, 13, []), (0, 13, []), (0, 13, []), (0, 13, []), (0, 13, []), (0, 13, []), (0, 13, []), (0, 13, []), (0, 13, []), (0, 13, []), (0, 13, []), (0, 13, []), (0, 12, [])]
abbrev TX3_init_6 : List fEn := [(4, 3, [(2, 1), (3, 0), (1, 0), (0, 0), (0, 0)]), (4, 1, [(2, 2), (2, 3), (0, 0), (0, 0), (2, 4), (2, 18), (0, 0)]), (0, 12, []), (0, 12, []), (3, 5, [(2, 5), (2, 6), (2, 7), (2, 8), (2, 9), (2, 10), (2, 11), (2, 12), (2, 13), (2, 14), (2, 15), (2, 16), (2, 17)]), (0, 13, []), (0, 13, []), (0, 13, []), (0, 13, []), (0, 13, []), (0, 13, []), (0, 13, []), (0, 13, []), (0, 13, []), (0, 13, []), (0, 13, []), (0, 13, []), (0, 13, []), (0, 12, []), (4, 1, [(2, 20), (2, 21), (0, 0), (0, 0), (2, 22), (2, 36), (0, 0)]), (0, 12, []), (0, 12, []), (3, 5, [(2, 23), (2, 24), (2, 25), (2, 26), (2, 27), (2, 28), (2, 29), (2, 30), (2, 31), (2, 32), (2, 33), (2, 34), (2, 35)]), (0, 13, []), (0, 13, []), (0, 13, []), (0, 13, []), (0, 13, []), (0, 13, []), (0, 13, []), (0, 13, []), (0, 13, []), (0, 13, []), (0, 13, []), (0, 13, []), (0, 13, []), (0, 12, [])]
abbrev TX3_init_7 : List fEn := [(4, 3, [(2, 1), (2, 19), (1, 0), (0, 0), (0, 0)]), (4, 1, [(2, 2), (2, 3), (0, 0), (0, 0), (2, 4), (2, 18), (0, 0)]), (0, 12, []), (0, 12, []), (3, 5, [(2, 5), (2, 6), (2, 7), (2, 8), (2, 9), (2, 10), (2, 11), (2, 12), (2, 13), (2, 14), (2, 15), (2, 16), (2, 17)]), (0, 13, []), (0, 13, []), (0, 13, []), (0, 13, []), (0, 13, []), (0, 13, []), (0, 13, []), (0, 13, []), (0, 13, []), (0, 13, []), (0, 13, []), (0, 13, []), (0, 13, []), (0, 12, []), (4, 1, [(2, 20), (2, 21), (0, 0), (0, 0), (2, 22), (2, 36), (0, 0)]), (0, 12, []), (0, 12, []), (3, 5, [(2, 23), (2, 24), (2, 25), (2, 26), (2, 27), (2, 28), (2, 29), (2, 30), (2, 31), (2, 32), (2, 33), (2, 34), (2, 35)]), (0, 13, []), (0, 13, []), (0, 13, []), (0, 13, []), (0, 13, []), (0, 13, []), (0, 13, []), (0, 13, []), (0, 13, []), (0, 13, []), (0, 13, []), (0, 13, []), (0, 13, []), (0, 12, [])]
abbrev TX3_init_8 : List fEn := [(4, 3, [(2, 1), (2, 19), (1, 0), (0, 0), (0, 0)]), (4, 1, [(2, 2), (2, 3), (0, 0), (0, 0), (2, 4), (2, 18), (0, 0)]), (0, 12, []), (0, 12, []), (3, 5, [(2, 5), (2, 6), (2, 7), (2, 8), (2, 9), (2, 10), (2, 11), (2, 12), (2, 13), (2, 14), (2, 15), (2, 16), (2, 17)]), (0, 13, []), (0, 13, []), (0, 13, []), (0, 13, []), (0, 13, []), (0, 13, []), (0, 13, []), (0, 13, []), (0, 13, []), (0, 13, []), (0, 13, []), (0, 13, []), (0, 13, []), (0, 12, []), (4, 1, [(2, 20), (2, 21), (0, 0), (0, 0), (2, 22), (2, 36), (0, 0)]), (0, 12, []), (0, 12, []), (3, 5, [(2, 23), (2, 24), (2, 25), (2, 26), (2, 27), (2, 28), (2, 29), (2, 30), (2, 31), (2, 32), (2, 33), (2, 34), (2, 35)]), (0, 13, []), (0, 13, []), (0, 13, []), (0, 13, []), (0, 13, []), (0, 13, []), (0, 13, []), (0, 13, []), (0, 13, []), (0, 13, []), (0, 13, []), (0, 13, []), (0, 13, []), (0, 12, [])]
def M_X3_init : fMem := (fup (fup (fup (jM 19 (jM 1 (fun _ _ => 0) M_X1_init) M_X1_init) 0 2 0) 0 3 0) 0 4 0)
set_option maxRecDepth 100000 in
set_option maxHeartbeats 8000000 in
theorem cn_X3_init (l : Launch) : fNt l vwCl (4, 3, [(3, 0), (3, 0), (1, 0), (0, 0), (0, 0)]) TX3_init_8 yX3_init cX3_init 1 2 32 36 450 M_X3_init := by
  refine fNt.of (by decide +kernel) rfl (by decide) (fun p e s m args below meth c D aC ad hC hr hk hin hao => ?_)
  have hA : ∀ q, s.heap.size ≤ q → fNA ad s.heap.size q := fun q h => Or.inr h
  refine GN.of (g_aload_n hC 0 1 rfl dX3_init_0 rfl rfl (GN.to ?_))
  refine n_obj hC 4 cw_202 cw_74 cw_75 dX3_init_1 rfl (by decide) ?_
  refine GN.of (g_aload_n hC 0 5 rfl dX3_init_4 rfl rfl (GN.to ?_))
  refine n_new (ci := 1) hC hA (by decide +kernel) [(3, 0), (3, 0), (0, 0), (0, 0), (3, 0), (3, 0), (0, 0)] (by decide) (fun _ => rfl) (fun ad => [(0, .ref (ad 0))]) (fun ad => [.ref (ad 0)]) (fun ad' h => by simp only [h 0 (by decide)]) (fun ad' h => by simp only [h 0 (by decide)]) inX1 tyX1 tyX1_ok rfl cw_203 cw_163 gw_63 (by decide +kernel) (by decide) (by decide) dX3_init_5 8 rfl ?_
  intro ad1 q1 hC1
  have hC1 : fCx p s m args c vwCl D aC TX3_init_0 ad1 (fNA ad s.heap.size) goodTs cX3_init RX3 1 := hC1
  have z1 : ad1 0 = ad 0 := (q1 0 (by decide)).trans rfl
  show GN p l e _ s m args below meth c vwCl D aC TX3_init_0 ad1 (fNA ad s.heap.size) 1 _ _ _ 8 [(0, .ref (ad1 0))] [.ref (ad1 1), .ref (ad1 0)] _
  refine GN.of (g_dup hC1 9 dX3_init_8 rfl rfl (GN.to ?_))
  refine n_cIN (tb := TX3_init_p1) hC1 hA (by decide +kernel) (fun _ => rfl) (by decide) hao (cn_X1_init l) (by decide) (fun ad => [(0, .ref (ad 0))]) (fun ad => [.ref (ad 1), .ref (ad 0)]) (fun ad' h => by simp only [h 0 (by decide)]) (fun ad' h => by simp only [h 0 (by decide), h 1 (by decide)]) cw_204 cw_166 gw_63 cw_165 rfl (by decide +kernel) (by decide) (Nat.le_of_ble_eq_true rfl) (by decide) dX3_init_9 12 rfl ?_
  intro ad2 q2 hC2
  have hC2 : fCx p s m args c vwCl D aC TX3_init_2 ad2 (fNA ad s.heap.size) goodTs cX3_init RX3 1 := hC2
  have z2 : ad2 0 = ad 0 := (q2 0 (by decide)).trans z1
  show GN p l e _ s m args below meth c vwCl D aC TX3_init_2 ad2 (fNA ad s.heap.size) 1 _ _ _ 12 [(0, .ref (ad2 0))] [.ref (ad2 1), .ref (ad2 0)] _
  refine n_putR (ty := .object "RevisionStore$Difference") hC2 15 TX3_init_3 tyX3 tyX3_ok nmX3 inX3 rfl 0 (by decide) gw_205 rfl rfl hin rfl (by decide +kernel) (fun _ => rfl) (fun _ => rfl) rfl (by decide) rfl dX3_init_12 rfl ?_
  intro hC3
  refine GN.of (g_aload_n hC3 0 16 rfl dX3_init_15 rfl rfl (GN.to ?_))
  refine n_new (ci := 1) hC3 hA (by decide +kernel) [(3, 0), (3, 0), (0, 0), (0, 0), (3, 0), (3, 0), (0, 0)] (by decide) (fun _ => rfl) (fun ad => [(0, .ref (ad 0))]) (fun ad => [.ref (ad 0)]) (fun ad' h => by simp only [h 0 (by decide)]) (fun ad' h => by simp only [h 0 (by decide)]) inX1 tyX1 tyX1_ok rfl cw_203 cw_163 gw_63 (by decide +kernel) (by decide) (by decide) dX3_init_16 19 rfl ?_
  intro ad4 q4 hC4
  have hC4 : fCx p s m args c vwCl D aC TX3_init_4 ad4 (fNA ad s.heap.size) goodTs cX3_init RX3 1 := hC4
  have z4 : ad4 0 = ad 0 := (q4 0 (by decide)).trans z2
  show GN p l e _ s m args below meth c vwCl D aC TX3_init_4 ad4 (fNA ad s.heap.size) 1 _ _ _ 19 [(0, .ref (ad4 0))] [.ref (ad4 19), .ref (ad4 0)] _
  refine GN.of (g_dup hC4 20 dX3_init_19 rfl rfl (GN.to ?_))
  refine n_cIN (tb := TX3_init_p5) hC4 hA (by decide +kernel) (fun _ => rfl) (by decide) hao (cn_X1_init l) (by decide) (fun ad => [(0, .ref (ad 0))]) (fun ad => [.ref (ad 19), .ref (ad 0)]) (fun ad' h => by simp only [h 0 (by decide)]) (fun ad' h => by simp only [h 0 (by decide), h 19 (by decide)]) cw_204 cw_166 gw_63 cw_165 rfl (by decide +kernel) (by decide) (Nat.le_of_ble_eq_true rfl) (by decide) dX3_init_20 23 rfl ?_
  intro ad5 q5 hC5
  have hC5 : fCx p s m args c vwCl D aC TX3_init_6 ad5 (fNA ad s.heap.size) goodTs cX3_init RX3 1 := hC5
  have z5 : ad5 0 = ad 0 := (q5 0 (by decide)).trans z4
  show GN p l e _ s m args below meth c vwCl D aC TX3_init_6 ad5 (fNA ad s.heap.size) 1 _ _ _ 23 [(0, .ref (ad5 0))] [.ref (ad5 19), .ref (ad5 0)] _
  refine n_putR (ty := .object "RevisionStore$Difference") hC5 26 TX3_init_7 tyX3 tyX3_ok nmX3 inX3 rfl 1 (by decide) gw_206 rfl rfl hin rfl (by decide +kernel) (fun _ => rfl) (fun _ => rfl) rfl (by decide) rfl dX3_init_23 rfl ?_
  intro hC6
  refine GN.of (g_aload_n hC6 0 27 rfl dX3_init_26 rfl rfl (GN.to ?_))
  refine GN.of (g_lconst hC6 0 28 dX3_init_27 rfl (by decide +kernel) (GN.to ?_))
  refine n_putJ hC6 31 tyX3 tyX3_ok nmX3 inX3 rfl 2 (by decide) gw_207 rfl rfl (by decide +kernel) rfl rfl dX3_init_28 rfl ?_
  refine GN.of (g_aload_n hC6 0 32 rfl dX3_init_31 rfl rfl (GN.to ?_))
  refine GN.of (g_iconst hC6 33 dX3_init_32 rfl (GN.to ?_))
  refine n_putI hC6 36 tyX3 tyX3_ok nmX3 inX3 rfl 3 (by decide) gw_209 rfl rfl (by decide +kernel) rfl rfl dX3_init_33 rfl ?_
  refine GN.of (g_aload_n hC6 0 37 rfl dX3_init_36 rfl rfl (GN.to ?_))
  refine GN.of (g_iconst hC6 38 dX3_init_37 rfl (GN.to ?_))
  refine n_putZ hC6 (by decide) 41 tyX3 tyX3_ok nmX3 inX3 rfl 4 (by decide) gw_210 rfl rfl (by decide +kernel) rfl rfl dX3_init_38 rfl ?_
  exact n_ret hC6 hr hk z5 (by decide) rfl dX3_init_41
