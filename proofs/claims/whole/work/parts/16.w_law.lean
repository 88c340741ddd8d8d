def dn_L_law_J899 (sc : Nat → Int) (L : Nat)  (r : Int → fMem → fOp) (a3 : Int) (M : fMem) : fOp :=
  r (a3 + 5) M
set_option maxRecDepth 100000 in
set_option maxHeartbeats 4000000 in
theorem wk_L_law_J899 {l : Launch} {p : Program} {e : Env} {s : State} {m : MethodId} {b L : Nat} {xs : Nat → Int32} {below : List Frame} {meth : Method} {c : Code} {D : va_G} {aC : Nat → ClassId} {ad : Nat → Nat} {CC SS : Nat} (hC : fCx p s m #[Value.ref b] c vwCl D aC TB ad (fun q => s.heap.size ≤ q) goodTs code RL 4) (hr : meth.sig.returnType = ret) (hk : (meth.locks = false ∧ CC ≤ 600000 ∧ SS ≤ 7302250) ∧ va_X b L xs s s.heap ∧ b < s.heap.size ∧ ¬ (s.heap.size ≤ b) ∧ L ≤ 2147483647) (a3 : Int)  (r : Int → fMem → fOp) (hrc : ∀ (z3 : Int) (M : fMem), GL l p e s m b below meth c D aC ad CC SS 18 [(0, .ref b), (1, .ref (ad 0)), (2, .ref (ad 115)), (3, .int (fI z3))] [] M (r z3 M)) (M : fMem) : GL l p e s m b below meth c D aC ad CC SS 899 [(0, .ref b), (1, .ref (ad 0)), (2, .ref (ad 115)), (3, .int (fI a3))] [] M (dn_L_law_J899 (fun j => (xs j).toInt) L r a3 M) := by
  unfold dn_L_law_J899
  refine g_iinc hC 3 902 [(3, .int (fI (a3 + 5))), (0, .ref b), (1, .ref (ad 0)), (2, .ref (ad 115))] rfl dL_law_899 (by decide) rfl rfl ?_
  refine g_goto hC 18 dL_law_902 rfl ?_
  refine g_lv [1, 2, 3, 0] rfl ?_
  exact hrc _ _
def dn_L_law_J440 (sc : Nat → Int) (L : Nat)  (r : Int → fMem → fOp) (a3 as0 as1 as2 as3 as5 : Int) (M : fMem) : fOp :=
  fCl (dn_X6_tag as3 as2 as1 as0 M) (fun v63 M64 => fEq as5 v63 (dn_L_law_J899 sc L r a3 M64) (none))
set_option maxRecDepth 100000 in
set_option maxHeartbeats 4000000 in
theorem wk_L_law_J440 {l : Launch} {p : Program} {e : Env} {s : State} {m : MethodId} {b L : Nat} {xs : Nat → Int32} {below : List Frame} {meth : Method} {c : Code} {D : va_G} {aC : Nat → ClassId} {ad : Nat → Nat} {CC SS : Nat} (hC : fCx p s m #[Value.ref b] c vwCl D aC TB ad (fun q => s.heap.size ≤ q) goodTs code RL 4) (hr : meth.sig.returnType = ret) (hk : (meth.locks = false ∧ CC ≤ 600000 ∧ SS ≤ 7302250) ∧ va_X b L xs s s.heap ∧ b < s.heap.size ∧ ¬ (s.heap.size ≤ b) ∧ L ≤ 2147483647) (a3 as0 as1 as2 as3 as5 : Int)  (r : Int → fMem → fOp) (hrc : ∀ (z3 : Int) (M : fMem), GL l p e s m b below meth c D aC ad CC SS 18 [(0, .ref b), (1, .ref (ad 0)), (2, .ref (ad 115)), (3, .int (fI z3))] [] M (r z3 M)) (M : fMem) : GL l p e s m b below meth c D aC ad CC SS 440 [(0, .ref b), (1, .ref (ad 0)), (2, .ref (ad 115)), (3, .int (fI a3))] [.int (fI as0), .int (fI as1), .int (fI as2), .int (fI as3), .ref (ad 115), .int (fI as5)] M (dn_L_law_J440 (fun j => (xs j).toInt) L r a3 as0 as1 as2 as3 as5 M) := by
  unfold dn_L_law_J440
  refine g_cV hC 443 4 [.int (fI as3), .int (fI as2), .int (fI as1), .int (fI as0)] [.int (fI as5)] (cn_X6_tag l as3 as2 as1 as0 _) rfl rfl tb_MD rfl gw_705 gw_708 gw_65 gw_706 gw_707 (by decide +kernel) rfl ⟨Nat.le_of_ble_eq_true rfl, Nat.le_of_ble_eq_true rfl⟩ (Nat.le_of_ble_eq_true rfl) hk.1.2 dL_law_440 rfl (fun v63 => .int (fI v63) :: [.int (fI as5)]) (fun _ => rfl) (fun v63 M64 => ?_)
  refine g_icmp_eq hC 899 446 dL_law_443 rfl rfl ?_ ?_
  · exact wk_L_law_J899 hC hr hk _ _ hrc _
  · refine g_iconst hC 447 dL_law_446 rfl ?_
    exact g_none
def dn_L_law_J408 (sc : Nat → Int) (L : Nat)  (r : Int → fMem → fOp) (a3 as0 as1 as2 as3 : Int) (M : fMem) : fOp :=
  fCl (dn_X5_tag as3 as2 as1 as0 M) (fun v57 M58 => fSc sc L (a3 + 1) (fun x59 => fSc sc L (a3 + 2) (fun x60 => fSc sc L (a3 + 3) (fun x61 => fSc sc L (a3 + 4) (fun x62 => fEq x62 0 (dn_L_law_J440 sc L r a3 0 x61 x60 x59 v57 M58) (dn_L_law_J440 sc L r a3 1 x61 x60 x59 v57 M58))))))
set_option maxRecDepth 100000 in
set_option maxHeartbeats 4000000 in
theorem wk_L_law_J408 {l : Launch} {p : Program} {e : Env} {s : State} {m : MethodId} {b L : Nat} {xs : Nat → Int32} {below : List Frame} {meth : Method} {c : Code} {D : va_G} {aC : Nat → ClassId} {ad : Nat → Nat} {CC SS : Nat} (hC : fCx p s m #[Value.ref b] c vwCl D aC TB ad (fun q => s.heap.size ≤ q) goodTs code RL 4) (hr : meth.sig.returnType = ret) (hk : (meth.locks = false ∧ CC ≤ 600000 ∧ SS ≤ 7302250) ∧ va_X b L xs s s.heap ∧ b < s.heap.size ∧ ¬ (s.heap.size ≤ b) ∧ L ≤ 2147483647) (a3 as0 as1 as2 as3 : Int)  (r : Int → fMem → fOp) (hrc : ∀ (z3 : Int) (M : fMem), GL l p e s m b below meth c D aC ad CC SS 18 [(0, .ref b), (1, .ref (ad 0)), (2, .ref (ad 115)), (3, .int (fI z3))] [] M (r z3 M)) (M : fMem) : GL l p e s m b below meth c D aC ad CC SS 408 [(0, .ref b), (1, .ref (ad 0)), (2, .ref (ad 115)), (3, .int (fI a3))] [.int (fI as0), .int (fI as1), .int (fI as2), .int (fI as3), .ref (ad 0)] M (dn_L_law_J408 (fun j => (xs j).toInt) L r a3 as0 as1 as2 as3 M) := by
  unfold dn_L_law_J408
  refine g_cV hC 411 4 [.int (fI as3), .int (fI as2), .int (fI as1), .int (fI as0)] [] (cn_X5_tag l as3 as2 as1 as0 _) rfl rfl tb_RS rfl gw_434 gw_437 gw_59 gw_435 gw_436 (by decide +kernel) rfl ⟨Nat.le_of_ble_eq_true rfl, Nat.le_of_ble_eq_true rfl⟩ (Nat.le_of_ble_eq_true rfl) hk.1.2 dL_law_408 rfl (fun v57 => .int (fI v57) :: []) (fun _ => rfl) (fun v57 M58 => ?_)
  refine g_aload_n hC 2 412 rfl dL_law_411 rfl rfl ?_
  refine g_aload_n hC 0 413 rfl dL_law_412 rfl rfl ?_
  refine g_iload_n hC 3 414 rfl dL_law_413 rfl rfl ?_
  refine g_iconst hC 415 dL_law_414 rfl ?_
  refine g_iadd hC 416 dL_law_415 rfl ?_
  refine g_sld hC hk.2 417 dL_law_416 rfl (fun x59 => ?_)
  refine g_aload_n hC 0 418 rfl dL_law_417 rfl rfl ?_
  refine g_iload_n hC 3 419 rfl dL_law_418 rfl rfl ?_
  refine g_iconst hC 420 dL_law_419 rfl ?_
  refine g_iadd hC 421 dL_law_420 rfl ?_
  refine g_sld hC hk.2 422 dL_law_421 rfl (fun x60 => ?_)
  refine g_aload_n hC 0 423 rfl dL_law_422 rfl rfl ?_
  refine g_iload_n hC 3 424 rfl dL_law_423 rfl rfl ?_
  refine g_iconst hC 425 dL_law_424 rfl ?_
  refine g_iadd hC 426 dL_law_425 rfl ?_
  refine g_sld hC hk.2 427 dL_law_426 rfl (fun x61 => ?_)
  refine g_aload_n hC 0 428 rfl dL_law_427 rfl rfl ?_
  refine g_iload_n hC 3 429 rfl dL_law_428 rfl rfl ?_
  refine g_iconst hC 430 dL_law_429 rfl ?_
  refine g_iadd hC 431 dL_law_430 rfl ?_
  refine g_sld hC hk.2 432 dL_law_431 rfl (fun x62 => ?_)
  refine g_if_eq hC 439 435 dL_law_432 rfl rfl ?_ ?_
  · refine g_iconst hC 440 dL_law_439 rfl ?_
    exact wk_L_law_J440 hC hr hk _ _ _ _ _ _ _ hrc _
  · refine g_iconst hC 436 dL_law_435 rfl ?_
    refine g_goto hC 440 dL_law_436 rfl ?_
    exact wk_L_law_J440 hC hr hk _ _ _ _ _ _ _ hrc _
def dn_L_law_L18B (sc : Nat → Int) (L : Nat)  (r : Int → fMem → fOp) (a3 : Int) (M : fMem) : fOp :=
  fLt ((L : Int) - 5) a3 (some (1, M)) (fSc sc L a3 (fun x1 => fA5 x1 (fun x2 => fEq x2 0 (fSc sc L (a3 + 1) (fun x3 => fSc sc L (a3 + 2) (fun x4 => fSc sc L (a3 + 3) (fun x5 => fX2 x5 (fSc sc L (a3 + 4) (fun x6 => fX2 x6 (fCl (dn_X5_add x3 x4 (fOr (fShl x5) (fM32 x6)) M) (fun v7 M8 => fSc sc L (a3 + 1) (fun x9 => fSc sc L (a3 + 2) (fun x10 => fSc sc L (a3 + 3) (fun x11 => fX2 x11 (fSc sc L (a3 + 4) (fun x12 => fX2 x12 (fCl (dn_X6_add x9 x10 (fOr (fShl x11) (fM32 x12)) M8) (fun v13 M14 => fEq v7 v13 (dn_L_law_J899 sc L r a3 M14) (none)))))))))))))))) (fEq x2 1 (fSc sc L (a3 + 1) (fun x15 => fSc sc L (a3 + 2) (fun x16 => fSc sc L (a3 + 3) (fun x17 => fX2 x17 (fSc sc L (a3 + 4) (fun x18 => fX2 x18 (fCl (dn_X5_edit x15 x16 (fOr (fShl x17) (fM32 x18)) M) (fun v19 M20 => fSc sc L (a3 + 1) (fun x21 => fSc sc L (a3 + 2) (fun x22 => fSc sc L (a3 + 3) (fun x23 => fX2 x23 (fSc sc L (a3 + 4) (fun x24 => fX2 x24 (fCl (dn_X6_edit x21 x22 (fOr (fShl x23) (fM32 x24)) M20) (fun v25 M26 => fEq v19 v25 (dn_L_law_J899 sc L r a3 M26) (none)))))))))))))))) (fEq x2 2 (fSc sc L (a3 + 1) (fun x27 => fSc sc L (a3 + 2) (fun x28 => fCl (dn_X5_remove x27 x28 M) (fun v29 M30 => fSc sc L (a3 + 1) (fun x31 => fSc sc L (a3 + 2) (fun x32 => fCl (dn_X6_remove x31 x32 M30) (fun v33 M34 => fEq v29 v33 (dn_L_law_J899 sc L r a3 M34) (none)))))))) (fEq x2 3 (fSc sc L (a3 + 1) (fun x35 => fSc sc L (a3 + 2) (fun x36 => fCl (dn_X5_commit x35 x36 M) (fun v37 M38 => fSc sc L (a3 + 1) (fun x39 => fSc sc L (a3 + 2) (fun x40 => fCl (dn_X6_commit x39 x40 M38) (fun v41 M42 => fEq v37 v41 (dn_L_law_J899 sc L r a3 M42) (none)))))))) (fEq x2 4 (fSc sc L (a3 + 1) (fun x43 => fSc sc L (a3 + 2) (fun x44 => fSc sc L (a3 + 3) (fun x45 => fCl (dn_X5_update x43 x44 x45 M) (fun v46 M47 => fSc sc L (a3 + 1) (fun x48 => fSc sc L (a3 + 2) (fun x49 => fSc sc L (a3 + 3) (fun x50 => fCl (dn_X6_update x48 x49 x50 M47) (fun v51 M52 => fEq v46 v51 (dn_L_law_J899 sc L r a3 M52) (none)))))))))) (fEq x2 5 (fSc sc L (a3 + 1) (fun x53 => fSc sc L (a3 + 2) (fun x54 => fSc sc L (a3 + 3) (fun x55 => fSc sc L (a3 + 4) (fun x56 => fEq x56 0 (dn_L_law_J408 sc L r a3 0 x55 x54 x53 M) (dn_L_law_J408 sc L r a3 1 x55 x54 x53 M)))))) (fEq x2 6 (fSc sc L (a3 + 1) (fun x65 => fSc sc L (a3 + 2) (fun x66 => fX2 x66 (fSc sc L (a3 + 3) (fun x67 => fX2 x67 (fCl (dn_X5_bring x65 (fOr (fShl x66) (fM32 x67)) M) (fun v68 M69 => fSc sc L (a3 + 1) (fun x70 => fSc sc L (a3 + 2) (fun x71 => fX2 x71 (fSc sc L (a3 + 3) (fun x72 => fX2 x72 (fCl (dn_X6_bring x70 (fOr (fShl x71) (fM32 x72)) M69) (fun v73 M74 => fEq v68 v73 (dn_L_law_J899 sc L r a3 M74) (none)))))))))))))) (fEq x2 7 (fSc sc L (a3 + 1) (fun x75 => fSc sc L (a3 + 2) (fun x76 => fCl (dn_X5_entry x75 x76 M) (fun v77 M78 => fSc sc L (a3 + 1) (fun x79 => fSc sc L (a3 + 2) (fun x80 => fCl (dn_X6_entry x79 x80 M78) (fun v81 M82 => fEq v77 v81 (dn_L_law_J899 sc L r a3 M82) (none)))))))) (fEq x2 8 (fSc sc L (a3 + 1) (fun x83 => fSc sc L (a3 + 2) (fun x84 => fCl (dn_X5_removed x83 x84 M) (fun v85 M86 => fSc sc L (a3 + 1) (fun x87 => fSc sc L (a3 + 2) (fun x88 => fCl (dn_X6_removed x87 x88 M86) (fun v89 M90 => fEq v85 v89 (dn_L_law_J899 sc L r a3 M90) (none)))))))) (fEq x2 9 (fSc sc L (a3 + 1) (fun x91 => fSc sc L (a3 + 2) (fun x92 => fCl (dn_X5_local x91 x92 M) (fun v93 M94 => fSc sc L (a3 + 1) (fun x95 => fSc sc L (a3 + 2) (fun x96 => fCl (dn_X6_local x95 x96 M94) (fun v97 M98 => fEqL v93 v97 (dn_L_law_J899 sc L r a3 M98) (none)))))))) (fEq x2 10 (fSc sc L (a3 + 1) (fun x99 => fSc sc L (a3 + 2) (fun x100 => fCl (dn_X5_selected x99 x100 M) (fun v101 M102 => fSc sc L (a3 + 1) (fun x103 => fSc sc L (a3 + 2) (fun x104 => fCl (dn_X6_selected x103 x104 M102) (fun v105 M106 => fEq v101 v105 (dn_L_law_J899 sc L r a3 M106) (none)))))))) (fEq x2 11 (fSc sc L (a3 + 1) (fun x107 => fSc sc L (a3 + 2) (fun x108 => fCl (dn_X5_sticky x107 x108 M) (fun v109 M110 => fSc sc L (a3 + 1) (fun x111 => fSc sc L (a3 + 2) (fun x112 => fCl (dn_X6_sticky x111 x112 M110) (fun v113 M114 => fEq v109 v113 (dn_L_law_J899 sc L r a3 M114) (none)))))))) (fEq x2 12 (fSc sc L (a3 + 1) (fun x115 => fCl (dn_X5_revisions x115 M) (fun v116 M117 => fSc sc L (a3 + 1) (fun x118 => fCl (dn_X6_revisions x118 M117) (fun v119 M120 => fEq v116 v119 (dn_L_law_J899 sc L r a3 M120) (none)))))) (fEq x2 13 (fSc sc L (a3 + 1) (fun x121 => fSc sc L (a3 + 2) (fun x122 => fSc sc L (a3 + 3) (fun x123 => fCl (dn_X5_number x121 x122 x123 M) (fun v124 M125 => fSc sc L (a3 + 1) (fun x126 => fSc sc L (a3 + 2) (fun x127 => fSc sc L (a3 + 3) (fun x128 => fCl (dn_X6_number x126 x127 x128 M125) (fun v129 M130 => fEq v124 v129 (dn_L_law_J899 sc L r a3 M130) (none)))))))))) (fEq x2 14 (fSc sc L (a3 + 1) (fun x131 => fSc sc L (a3 + 2) (fun x132 => fCl (dn_X5_content x131 x132 M) (fun v133 M134 => fSc sc L (a3 + 1) (fun x135 => fSc sc L (a3 + 2) (fun x136 => fCl (dn_X6_content x135 x136 M134) (fun v137 M138 => fEqL v133 v137 (dn_L_law_J899 sc L r a3 M138) (none)))))))) (fEq x2 15 (fSc sc L (a3 + 1) (fun x139 => fSc sc L (a3 + 2) (fun x140 => fCl (dn_X5_dead x139 x140 M) (fun v141 M142 => fSc sc L (a3 + 1) (fun x143 => fSc sc L (a3 + 2) (fun x144 => fCl (dn_X6_dead x143 x144 M142) (fun v145 M146 => fEq v141 v145 (dn_L_law_J899 sc L r a3 M146) (none)))))))) (fEq x2 16 (fSc sc L (a3 + 1) (fun x147 => fSc sc L (a3 + 2) (fun x148 => fCl (dn_X5_kept x147 x148 M) (fun v149 M150 => fSc sc L (a3 + 1) (fun x151 => fSc sc L (a3 + 2) (fun x152 => fCl (dn_X6_kept x151 x152 M150) (fun v153 M154 => fEq v149 v153 (dn_L_law_J899 sc L r a3 M154) (none)))))))) (fEq x2 17 (fSc sc L (a3 + 1) (fun x155 => fSc sc L (a3 + 2) (fun x156 => fCl (dn_X5_named x155 x156 M) (fun v157 M158 => fSc sc L (a3 + 1) (fun x159 => fSc sc L (a3 + 2) (fun x160 => fCl (dn_X6_named x159 x160 M158) (fun v161 M162 => fEq v157 v161 (dn_L_law_J899 sc L r a3 M162) (none)))))))) (fEq x2 18 (fSc sc L (a3 + 1) (fun x163 => fCl (dn_X5_standard x163 M) (fun v164 M165 => fSc sc L (a3 + 1) (fun x166 => fCl (dn_X6_standard x166 M165) (fun v167 M168 => fEq v164 v167 (dn_L_law_J899 sc L r a3 M168) (none)))))) (fX2 x2 (dn_L_law_J899 sc L r a3 M)))))))))))))))))))))))
def dn_L_law_L18 (sc : Nat → Int) (L : Nat)  : Nat → Int → fMem → fOp
  | 0, _, _ => none
  | n + 1, a3, M => dn_L_law_L18B sc L (fun a3 M => dn_L_law_L18 sc L n a3 M) a3 M
set_option maxRecDepth 100000 in
set_option maxHeartbeats 4000000 in
theorem wk_L_law_L18B {l : Launch} {p : Program} {e : Env} {s : State} {m : MethodId} {b L : Nat} {xs : Nat → Int32} {below : List Frame} {meth : Method} {c : Code} {D : va_G} {aC : Nat → ClassId} {ad : Nat → Nat} {CC SS : Nat} (hC : fCx p s m #[Value.ref b] c vwCl D aC TB ad (fun q => s.heap.size ≤ q) goodTs code RL 4) (hr : meth.sig.returnType = ret) (hk : (meth.locks = false ∧ CC ≤ 600000 ∧ SS ≤ 7302250) ∧ va_X b L xs s s.heap ∧ b < s.heap.size ∧ ¬ (s.heap.size ≤ b) ∧ L ≤ 2147483647) (r : Int → fMem → fOp) (hrc : ∀ (a3 : Int) (M : fMem), GL l p e s m b below meth c D aC ad CC SS 18 [(0, .ref b), (1, .ref (ad 0)), (2, .ref (ad 115)), (3, .int (fI a3))] [] M (r a3 M)) (a3 : Int) (M : fMem) : GL l p e s m b below meth c D aC ad CC SS 18 [(0, .ref b), (1, .ref (ad 0)), (2, .ref (ad 115)), (3, .int (fI a3))] [] M (dn_L_law_L18B (fun j => (xs j).toInt) L r a3 M) := by
  unfold dn_L_law_L18B
  refine g_iload_n hC 3 19 rfl dL_law_18 rfl rfl ?_
  refine g_aload_n hC 0 20 rfl dL_law_19 rfl rfl ?_
  refine g_slen hC hk.2 21 dL_law_20 rfl ?_
  refine g_iconst hC 22 dL_law_21 rfl ?_
  refine g_isub hC 23 dL_law_22 rfl ?_
  refine g_icmp_gt hC 905 26 dL_law_23 rfl rfl ?_ ?_
  · refine g_iconst hC 906 dL_law_905 rfl ?_
    exact g_lawret hC hr hk.1.1 hk.1.2 dL_law_906
  · refine g_aload_n hC 0 27 rfl dL_law_26 rfl rfl ?_
    refine g_iload_n hC 3 28 rfl dL_law_27 rfl rfl ?_
    refine g_sld hC hk.2 29 dL_law_28 rfl (fun x1 => ?_)
    refine g_bipush hC 31 dL_law_29 rfl (by decide +kernel) ?_
    refine g_iand31 hC 32 dL_law_31 rfl (fun x2 => ?_)
    refine g_tsw hC 0 124 dL_law_32 (by decide) rfl rfl ?_ (fun hy0 => ?_)
    · refine g_aload_n hC 1 125 rfl dL_law_124 rfl rfl ?_
      refine g_aload_n hC 0 126 rfl dL_law_125 rfl rfl ?_
      refine g_iload_n hC 3 127 rfl dL_law_126 rfl rfl ?_
      refine g_iconst hC 128 dL_law_127 rfl ?_
      refine g_iadd hC 129 dL_law_128 rfl ?_
      refine g_sld hC hk.2 130 dL_law_129 rfl (fun x3 => ?_)
      refine g_aload_n hC 0 131 rfl dL_law_130 rfl rfl ?_
      refine g_iload_n hC 3 132 rfl dL_law_131 rfl rfl ?_
      refine g_iconst hC 133 dL_law_132 rfl ?_
      refine g_iadd hC 134 dL_law_133 rfl ?_
      refine g_sld hC hk.2 135 dL_law_134 rfl (fun x4 => ?_)
      refine g_aload_n hC 0 136 rfl dL_law_135 rfl rfl ?_
      refine g_iload_n hC 3 137 rfl dL_law_136 rfl rfl ?_
      refine g_iconst hC 138 dL_law_137 rfl ?_
      refine g_iadd hC 139 dL_law_138 rfl ?_
      refine g_sld hC hk.2 140 dL_law_139 rfl (fun x5 => ?_)
      refine g_i2l hC 141 dL_law_140 rfl ?_
      refine g_bipush hC 143 dL_law_141 rfl (by decide +kernel) ?_
      refine g_lshl32 hC 144 dL_law_143 rfl ?_
      refine g_aload_n hC 0 145 rfl dL_law_144 rfl rfl ?_
      refine g_iload_n hC 3 146 rfl dL_law_145 rfl rfl ?_
      refine g_iconst hC 147 dL_law_146 rfl ?_
      refine g_iadd hC 148 dL_law_147 rfl ?_
      refine g_sld hC hk.2 149 dL_law_148 rfl (fun x6 => ?_)
      refine g_i2l hC 150 dL_law_149 rfl ?_
      refine g_ldc2 hC 4294967295 153 gw_782 dL_law_150 rfl ?_
      refine g_land32 hC 154 dL_law_153 rfl ?_
      refine g_lor hC 155 dL_law_154 rfl ?_
      refine g_cV hC 158 3 [.int (fI x3), .int (fI x4), .long (fL (fOr (fShl x5) (fM32 x6)))] [] (cn_X5_add l x3 x4 (fOr (fShl x5) (fM32 x6)) _) rfl rfl tb_RS rfl gw_239 gw_242 gw_59 gw_240 gw_241 (by decide +kernel) rfl ⟨Nat.le_of_ble_eq_true rfl, Nat.le_of_ble_eq_true rfl⟩ (Nat.le_of_ble_eq_true rfl) hk.1.2 dL_law_155 rfl (fun v7 => .int (fI v7) :: []) (fun _ => rfl) (fun v7 M8 => ?_)
      refine g_aload_n hC 2 159 rfl dL_law_158 rfl rfl ?_
      refine g_aload_n hC 0 160 rfl dL_law_159 rfl rfl ?_
      refine g_iload_n hC 3 161 rfl dL_law_160 rfl rfl ?_
      refine g_iconst hC 162 dL_law_161 rfl ?_
      refine g_iadd hC 163 dL_law_162 rfl ?_
      refine g_sld hC hk.2 164 dL_law_163 rfl (fun x9 => ?_)
      refine g_aload_n hC 0 165 rfl dL_law_164 rfl rfl ?_
      refine g_iload_n hC 3 166 rfl dL_law_165 rfl rfl ?_
      refine g_iconst hC 167 dL_law_166 rfl ?_
      refine g_iadd hC 168 dL_law_167 rfl ?_
      refine g_sld hC hk.2 169 dL_law_168 rfl (fun x10 => ?_)
      refine g_aload_n hC 0 170 rfl dL_law_169 rfl rfl ?_
      refine g_iload_n hC 3 171 rfl dL_law_170 rfl rfl ?_
      refine g_iconst hC 172 dL_law_171 rfl ?_
      refine g_iadd hC 173 dL_law_172 rfl ?_
      refine g_sld hC hk.2 174 dL_law_173 rfl (fun x11 => ?_)
      refine g_i2l hC 175 dL_law_174 rfl ?_
      refine g_bipush hC 177 dL_law_175 rfl (by decide +kernel) ?_
      refine g_lshl32 hC 178 dL_law_177 rfl ?_
      refine g_aload_n hC 0 179 rfl dL_law_178 rfl rfl ?_
      refine g_iload_n hC 3 180 rfl dL_law_179 rfl rfl ?_
      refine g_iconst hC 181 dL_law_180 rfl ?_
      refine g_iadd hC 182 dL_law_181 rfl ?_
      refine g_sld hC hk.2 183 dL_law_182 rfl (fun x12 => ?_)
      refine g_i2l hC 184 dL_law_183 rfl ?_
      refine g_ldc2 hC 4294967295 187 gw_782 dL_law_184 rfl ?_
      refine g_land32 hC 188 dL_law_187 rfl ?_
      refine g_lor hC 189 dL_law_188 rfl ?_
      refine g_cV hC 192 3 [.int (fI x9), .int (fI x10), .long (fL (fOr (fShl x11) (fM32 x12)))] [.int (fI v7)] (cn_X6_add l x9 x10 (fOr (fShl x11) (fM32 x12)) _) rfl rfl tb_MD rfl gw_594 gw_597 gw_65 gw_595 gw_596 (by decide +kernel) rfl ⟨Nat.le_of_ble_eq_true rfl, Nat.le_of_ble_eq_true rfl⟩ (Nat.le_of_ble_eq_true rfl) hk.1.2 dL_law_189 rfl (fun v13 => .int (fI v13) :: [.int (fI v7)]) (fun _ => rfl) (fun v13 M14 => ?_)
      refine g_icmp_eq hC 899 195 dL_law_192 rfl rfl ?_ ?_
      · exact wk_L_law_J899 hC hr hk _ _ hrc _
      · refine g_iconst hC 196 dL_law_195 rfl ?_
        exact g_none
    refine g_tsw hC 1 197 dL_law_32 (by decide) rfl rfl ?_ (fun hy1 => ?_)
    · refine g_aload_n hC 1 198 rfl dL_law_197 rfl rfl ?_
      refine g_aload_n hC 0 199 rfl dL_law_198 rfl rfl ?_
      refine g_iload_n hC 3 200 rfl dL_law_199 rfl rfl ?_
      refine g_iconst hC 201 dL_law_200 rfl ?_
      refine g_iadd hC 202 dL_law_201 rfl ?_
      refine g_sld hC hk.2 203 dL_law_202 rfl (fun x15 => ?_)
      refine g_aload_n hC 0 204 rfl dL_law_203 rfl rfl ?_
      refine g_iload_n hC 3 205 rfl dL_law_204 rfl rfl ?_
      refine g_iconst hC 206 dL_law_205 rfl ?_
      refine g_iadd hC 207 dL_law_206 rfl ?_
      refine g_sld hC hk.2 208 dL_law_207 rfl (fun x16 => ?_)
      refine g_aload_n hC 0 209 rfl dL_law_208 rfl rfl ?_
      refine g_iload_n hC 3 210 rfl dL_law_209 rfl rfl ?_
      refine g_iconst hC 211 dL_law_210 rfl ?_
      refine g_iadd hC 212 dL_law_211 rfl ?_
      refine g_sld hC hk.2 213 dL_law_212 rfl (fun x17 => ?_)
      refine g_i2l hC 214 dL_law_213 rfl ?_
      refine g_bipush hC 216 dL_law_214 rfl (by decide +kernel) ?_
      refine g_lshl32 hC 217 dL_law_216 rfl ?_
      refine g_aload_n hC 0 218 rfl dL_law_217 rfl rfl ?_
      refine g_iload_n hC 3 219 rfl dL_law_218 rfl rfl ?_
      refine g_iconst hC 220 dL_law_219 rfl ?_
      refine g_iadd hC 221 dL_law_220 rfl ?_
      refine g_sld hC hk.2 222 dL_law_221 rfl (fun x18 => ?_)
      refine g_i2l hC 223 dL_law_222 rfl ?_
      refine g_ldc2 hC 4294967295 226 gw_782 dL_law_223 rfl ?_
      refine g_land32 hC 227 dL_law_226 rfl ?_
      refine g_lor hC 228 dL_law_227 rfl ?_
      refine g_cV hC 231 3 [.int (fI x15), .int (fI x16), .long (fL (fOr (fShl x17) (fM32 x18)))] [] (cn_X5_edit l x15 x16 (fOr (fShl x17) (fM32 x18)) _) rfl rfl tb_RS rfl gw_273 gw_276 gw_59 gw_274 gw_275 (by decide +kernel) rfl ⟨Nat.le_of_ble_eq_true rfl, Nat.le_of_ble_eq_true rfl⟩ (Nat.le_of_ble_eq_true rfl) hk.1.2 dL_law_228 rfl (fun v19 => .int (fI v19) :: []) (fun _ => rfl) (fun v19 M20 => ?_)
      refine g_aload_n hC 2 232 rfl dL_law_231 rfl rfl ?_
      refine g_aload_n hC 0 233 rfl dL_law_232 rfl rfl ?_
      refine g_iload_n hC 3 234 rfl dL_law_233 rfl rfl ?_
      refine g_iconst hC 235 dL_law_234 rfl ?_
      refine g_iadd hC 236 dL_law_235 rfl ?_
      refine g_sld hC hk.2 237 dL_law_236 rfl (fun x21 => ?_)
      refine g_aload_n hC 0 238 rfl dL_law_237 rfl rfl ?_
      refine g_iload_n hC 3 239 rfl dL_law_238 rfl rfl ?_
      refine g_iconst hC 240 dL_law_239 rfl ?_
      refine g_iadd hC 241 dL_law_240 rfl ?_
      refine g_sld hC hk.2 242 dL_law_241 rfl (fun x22 => ?_)
      refine g_aload_n hC 0 243 rfl dL_law_242 rfl rfl ?_
      refine g_iload_n hC 3 244 rfl dL_law_243 rfl rfl ?_
      refine g_iconst hC 245 dL_law_244 rfl ?_
      refine g_iadd hC 246 dL_law_245 rfl ?_
      refine g_sld hC hk.2 247 dL_law_246 rfl (fun x23 => ?_)
      refine g_i2l hC 248 dL_law_247 rfl ?_
      refine g_bipush hC 250 dL_law_248 rfl (by decide +kernel) ?_
      refine g_lshl32 hC 251 dL_law_250 rfl ?_
      refine g_aload_n hC 0 252 rfl dL_law_251 rfl rfl ?_
      refine g_iload_n hC 3 253 rfl dL_law_252 rfl rfl ?_
      refine g_iconst hC 254 dL_law_253 rfl ?_
      refine g_iadd hC 255 dL_law_254 rfl ?_
      refine g_sld hC hk.2 256 dL_law_255 rfl (fun x24 => ?_)
      refine g_i2l hC 257 dL_law_256 rfl ?_
      refine g_ldc2 hC 4294967295 260 gw_782 dL_law_257 rfl ?_
      refine g_land32 hC 261 dL_law_260 rfl ?_
      refine g_lor hC 262 dL_law_261 rfl ?_
      refine g_cV hC 265 3 [.int (fI x21), .int (fI x22), .long (fL (fOr (fShl x23) (fM32 x24)))] [.int (fI v19)] (cn_X6_edit l x21 x22 (fOr (fShl x23) (fM32 x24)) _) rfl rfl tb_MD rfl gw_618 gw_621 gw_65 gw_619 gw_620 (by decide +kernel) rfl ⟨Nat.le_of_ble_eq_true rfl, Nat.le_of_ble_eq_true rfl⟩ (Nat.le_of_ble_eq_true rfl) hk.1.2 dL_law_262 rfl (fun v25 => .int (fI v25) :: [.int (fI v19)]) (fun _ => rfl) (fun v25 M26 => ?_)
      refine g_icmp_eq hC 899 268 dL_law_265 rfl rfl ?_ ?_
      · exact wk_L_law_J899 hC hr hk _ _ hrc _
      · refine g_iconst hC 269 dL_law_268 rfl ?_
        exact g_none
    refine g_tsw hC 2 270 dL_law_32 (by decide) rfl rfl ?_ (fun hy2 => ?_)
    · refine g_aload_n hC 1 271 rfl dL_law_270 rfl rfl ?_
      refine g_aload_n hC 0 272 rfl dL_law_271 rfl rfl ?_
      refine g_iload_n hC 3 273 rfl dL_law_272 rfl rfl ?_
      refine g_iconst hC 274 dL_law_273 rfl ?_
      refine g_iadd hC 275 dL_law_274 rfl ?_
      refine g_sld hC hk.2 276 dL_law_275 rfl (fun x27 => ?_)
      refine g_aload_n hC 0 277 rfl dL_law_276 rfl rfl ?_
      refine g_iload_n hC 3 278 rfl dL_law_277 rfl rfl ?_
      refine g_iconst hC 279 dL_law_278 rfl ?_
      refine g_iadd hC 280 dL_law_279 rfl ?_
      refine g_sld hC hk.2 281 dL_law_280 rfl (fun x28 => ?_)
      refine g_cV hC 284 2 [.int (fI x27), .int (fI x28)] [] (cn_X5_remove l x27 x28 _) rfl rfl tb_RS rfl gw_283 gw_286 gw_59 gw_284 gw_285 (by decide +kernel) rfl ⟨Nat.le_of_ble_eq_true rfl, Nat.le_of_ble_eq_true rfl⟩ (Nat.le_of_ble_eq_true rfl) hk.1.2 dL_law_281 rfl (fun v29 => .int (fI v29) :: []) (fun _ => rfl) (fun v29 M30 => ?_)
      refine g_aload_n hC 2 285 rfl dL_law_284 rfl rfl ?_
      refine g_aload_n hC 0 286 rfl dL_law_285 rfl rfl ?_
      refine g_iload_n hC 3 287 rfl dL_law_286 rfl rfl ?_
      refine g_iconst hC 288 dL_law_287 rfl ?_
      refine g_iadd hC 289 dL_law_288 rfl ?_
      refine g_sld hC hk.2 290 dL_law_289 rfl (fun x31 => ?_)
      refine g_aload_n hC 0 291 rfl dL_law_290 rfl rfl ?_
      refine g_iload_n hC 3 292 rfl dL_law_291 rfl rfl ?_
      refine g_iconst hC 293 dL_law_292 rfl ?_
      refine g_iadd hC 294 dL_law_293 rfl ?_
      refine g_sld hC hk.2 295 dL_law_294 rfl (fun x32 => ?_)
      refine g_cV hC 298 2 [.int (fI x31), .int (fI x32)] [.int (fI v29)] (cn_X6_remove l x31 x32 _) rfl rfl tb_MD rfl gw_626 gw_629 gw_65 gw_627 gw_628 (by decide +kernel) rfl ⟨Nat.le_of_ble_eq_true rfl, Nat.le_of_ble_eq_true rfl⟩ (Nat.le_of_ble_eq_true rfl) hk.1.2 dL_law_295 rfl (fun v33 => .int (fI v33) :: [.int (fI v29)]) (fun _ => rfl) (fun v33 M34 => ?_)
      refine g_icmp_eq hC 899 301 dL_law_298 rfl rfl ?_ ?_
      · exact wk_L_law_J899 hC hr hk _ _ hrc _
      · refine g_iconst hC 302 dL_law_301 rfl ?_
        exact g_none
    refine g_tsw hC 3 303 dL_law_32 (by decide) rfl rfl ?_ (fun hy3 => ?_)
    · refine g_aload_n hC 1 304 rfl dL_law_303 rfl rfl ?_
      refine g_aload_n hC 0 305 rfl dL_law_304 rfl rfl ?_
      refine g_iload_n hC 3 306 rfl dL_law_305 rfl rfl ?_
      refine g_iconst hC 307 dL_law_306 rfl ?_
      refine g_iadd hC 308 dL_law_307 rfl ?_
      refine g_sld hC hk.2 309 dL_law_308 rfl (fun x35 => ?_)
      refine g_aload_n hC 0 310 rfl dL_law_309 rfl rfl ?_
      refine g_iload_n hC 3 311 rfl dL_law_310 rfl rfl ?_
      refine g_iconst hC 312 dL_law_311 rfl ?_
      refine g_iadd hC 313 dL_law_312 rfl ?_
      refine g_sld hC hk.2 314 dL_law_313 rfl (fun x36 => ?_)
      refine g_cV hC 317 2 [.int (fI x35), .int (fI x36)] [] (cn_X5_commit l x35 x36 _) rfl rfl tb_RS rfl gw_299 gw_302 gw_59 gw_300 gw_301 (by decide +kernel) rfl ⟨Nat.le_of_ble_eq_true rfl, Nat.le_of_ble_eq_true rfl⟩ (Nat.le_of_ble_eq_true rfl) hk.1.2 dL_law_314 rfl (fun v37 => .int (fI v37) :: []) (fun _ => rfl) (fun v37 M38 => ?_)
      refine g_aload_n hC 2 318 rfl dL_law_317 rfl rfl ?_
      refine g_aload_n hC 0 319 rfl dL_law_318 rfl rfl ?_
      refine g_iload_n hC 3 320 rfl dL_law_319 rfl rfl ?_
      refine g_iconst hC 321 dL_law_320 rfl ?_
      refine g_iadd hC 322 dL_law_321 rfl ?_
      refine g_sld hC hk.2 323 dL_law_322 rfl (fun x39 => ?_)
      refine g_aload_n hC 0 324 rfl dL_law_323 rfl rfl ?_
      refine g_iload_n hC 3 325 rfl dL_law_324 rfl rfl ?_
      refine g_iconst hC 326 dL_law_325 rfl ?_
      refine g_iadd hC 327 dL_law_326 rfl ?_
      refine g_sld hC hk.2 328 dL_law_327 rfl (fun x40 => ?_)
      refine g_cV hC 331 2 [.int (fI x39), .int (fI x40)] [.int (fI v37)] (cn_X6_commit l x39 x40 _) rfl rfl tb_MD rfl gw_630 gw_633 gw_65 gw_631 gw_632 (by decide +kernel) rfl ⟨Nat.le_of_ble_eq_true rfl, Nat.le_of_ble_eq_true rfl⟩ (Nat.le_of_ble_eq_true rfl) hk.1.2 dL_law_328 rfl (fun v41 => .int (fI v41) :: [.int (fI v37)]) (fun _ => rfl) (fun v41 M42 => ?_)
      refine g_icmp_eq hC 899 334 dL_law_331 rfl rfl ?_ ?_
      · exact wk_L_law_J899 hC hr hk _ _ hrc _
      · refine g_iconst hC 335 dL_law_334 rfl ?_
        exact g_none
    refine g_tsw hC 4 336 dL_law_32 (by decide) rfl rfl ?_ (fun hy4 => ?_)
    · refine g_aload_n hC 1 337 rfl dL_law_336 rfl rfl ?_
      refine g_aload_n hC 0 338 rfl dL_law_337 rfl rfl ?_
      refine g_iload_n hC 3 339 rfl dL_law_338 rfl rfl ?_
      refine g_iconst hC 340 dL_law_339 rfl ?_
      refine g_iadd hC 341 dL_law_340 rfl ?_
      refine g_sld hC hk.2 342 dL_law_341 rfl (fun x43 => ?_)
      refine g_aload_n hC 0 343 rfl dL_law_342 rfl rfl ?_
      refine g_iload_n hC 3 344 rfl dL_law_343 rfl rfl ?_
      refine g_iconst hC 345 dL_law_344 rfl ?_
      refine g_iadd hC 346 dL_law_345 rfl ?_
      refine g_sld hC hk.2 347 dL_law_346 rfl (fun x44 => ?_)
      refine g_aload_n hC 0 348 rfl dL_law_347 rfl rfl ?_
      refine g_iload_n hC 3 349 rfl dL_law_348 rfl rfl ?_
      refine g_iconst hC 350 dL_law_349 rfl ?_
      refine g_iadd hC 351 dL_law_350 rfl ?_
      refine g_sld hC hk.2 352 dL_law_351 rfl (fun x45 => ?_)
      refine g_cV hC 355 3 [.int (fI x43), .int (fI x44), .int (fI x45)] [] (cn_X5_update l x43 x44 x45 _) rfl rfl tb_RS rfl gw_363 gw_366 gw_59 gw_364 gw_365 (by decide +kernel) rfl ⟨Nat.le_of_ble_eq_true rfl, Nat.le_of_ble_eq_true rfl⟩ (Nat.le_of_ble_eq_true rfl) hk.1.2 dL_law_352 rfl (fun v46 => .int (fI v46) :: []) (fun _ => rfl) (fun v46 M47 => ?_)
      refine g_aload_n hC 2 356 rfl dL_law_355 rfl rfl ?_
      refine g_aload_n hC 0 357 rfl dL_law_356 rfl rfl ?_
      refine g_iload_n hC 3 358 rfl dL_law_357 rfl rfl ?_
      refine g_iconst hC 359 dL_law_358 rfl ?_
      refine g_iadd hC 360 dL_law_359 rfl ?_
      refine g_sld hC hk.2 361 dL_law_360 rfl (fun x48 => ?_)
      refine g_aload_n hC 0 362 rfl dL_law_361 rfl rfl ?_
      refine g_iload_n hC 3 363 rfl dL_law_362 rfl rfl ?_
      refine g_iconst hC 364 dL_law_363 rfl ?_
      refine g_iadd hC 365 dL_law_364 rfl ?_
      refine g_sld hC hk.2 366 dL_law_365 rfl (fun x49 => ?_)
      refine g_aload_n hC 0 367 rfl dL_law_366 rfl rfl ?_
      refine g_iload_n hC 3 368 rfl dL_law_367 rfl rfl ?_
      refine g_iconst hC 369 dL_law_368 rfl ?_
      refine g_iadd hC 370 dL_law_369 rfl ?_
      refine g_sld hC hk.2 371 dL_law_370 rfl (fun x50 => ?_)
      refine g_cV hC 374 3 [.int (fI x48), .int (fI x49), .int (fI x50)] [.int (fI v46)] (cn_X6_update l x48 x49 x50 _) rfl rfl tb_MD rfl gw_666 gw_669 gw_65 gw_667 gw_668 (by decide +kernel) rfl ⟨Nat.le_of_ble_eq_true rfl, Nat.le_of_ble_eq_true rfl⟩ (Nat.le_of_ble_eq_true rfl) hk.1.2 dL_law_371 rfl (fun v51 => .int (fI v51) :: [.int (fI v46)]) (fun _ => rfl) (fun v51 M52 => ?_)
      refine g_icmp_eq hC 899 377 dL_law_374 rfl rfl ?_ ?_
      · exact wk_L_law_J899 hC hr hk _ _ hrc _
      · refine g_iconst hC 378 dL_law_377 rfl ?_
        exact g_none
    refine g_tsw hC 5 379 dL_law_32 (by decide) rfl rfl ?_ (fun hy5 => ?_)
    · refine g_aload_n hC 1 380 rfl dL_law_379 rfl rfl ?_
      refine g_aload_n hC 0 381 rfl dL_law_380 rfl rfl ?_
      refine g_iload_n hC 3 382 rfl dL_law_381 rfl rfl ?_
      refine g_iconst hC 383 dL_law_382 rfl ?_
      refine g_iadd hC 384 dL_law_383 rfl ?_
      refine g_sld hC hk.2 385 dL_law_384 rfl (fun x53 => ?_)
      refine g_aload_n hC 0 386 rfl dL_law_385 rfl rfl ?_
      refine g_iload_n hC 3 387 rfl dL_law_386 rfl rfl ?_
      refine g_iconst hC 388 dL_law_387 rfl ?_
      refine g_iadd hC 389 dL_law_388 rfl ?_
      refine g_sld hC hk.2 390 dL_law_389 rfl (fun x54 => ?_)
      refine g_aload_n hC 0 391 rfl dL_law_390 rfl rfl ?_
      refine g_iload_n hC 3 392 rfl dL_law_391 rfl rfl ?_
      refine g_iconst hC 393 dL_law_392 rfl ?_
      refine g_iadd hC 394 dL_law_393 rfl ?_
      refine g_sld hC hk.2 395 dL_law_394 rfl (fun x55 => ?_)
      refine g_aload_n hC 0 396 rfl dL_law_395 rfl rfl ?_
      refine g_iload_n hC 3 397 rfl dL_law_396 rfl rfl ?_
      refine g_iconst hC 398 dL_law_397 rfl ?_
      refine g_iadd hC 399 dL_law_398 rfl ?_
      refine g_sld hC hk.2 400 dL_law_399 rfl (fun x56 => ?_)
      refine g_if_eq hC 407 403 dL_law_400 rfl rfl ?_ ?_
      · refine g_iconst hC 408 dL_law_407 rfl ?_
        exact wk_L_law_J408 hC hr hk _ _ _ _ _ _ hrc _
      · refine g_iconst hC 404 dL_law_403 rfl ?_
        refine g_goto hC 408 dL_law_404 rfl ?_
        exact wk_L_law_J408 hC hr hk _ _ _ _ _ _ hrc _
    refine g_tsw hC 6 448 dL_law_32 (by decide) rfl rfl ?_ (fun hy6 => ?_)
    · refine g_aload_n hC 1 449 rfl dL_law_448 rfl rfl ?_
      refine g_aload_n hC 0 450 rfl dL_law_449 rfl rfl ?_
      refine g_iload_n hC 3 451 rfl dL_law_450 rfl rfl ?_
      refine g_iconst hC 452 dL_law_451 rfl ?_
      refine g_iadd hC 453 dL_law_452 rfl ?_
      refine g_sld hC hk.2 454 dL_law_453 rfl (fun x65 => ?_)
      refine g_aload_n hC 0 455 rfl dL_law_454 rfl rfl ?_
      refine g_iload_n hC 3 456 rfl dL_law_455 rfl rfl ?_
      refine g_iconst hC 457 dL_law_456 rfl ?_
      refine g_iadd hC 458 dL_law_457 rfl ?_
      refine g_sld hC hk.2 459 dL_law_458 rfl (fun x66 => ?_)
      refine g_i2l hC 460 dL_law_459 rfl ?_
      refine g_bipush hC 462 dL_law_460 rfl (by decide +kernel) ?_
      refine g_lshl32 hC 463 dL_law_462 rfl ?_
      refine g_aload_n hC 0 464 rfl dL_law_463 rfl rfl ?_
      refine g_iload_n hC 3 465 rfl dL_law_464 rfl rfl ?_
      refine g_iconst hC 466 dL_law_465 rfl ?_
      refine g_iadd hC 467 dL_law_466 rfl ?_
      refine g_sld hC hk.2 468 dL_law_467 rfl (fun x67 => ?_)
      refine g_i2l hC 469 dL_law_468 rfl ?_
      refine g_ldc2 hC 4294967295 472 gw_782 dL_law_469 rfl ?_
      refine g_land32 hC 473 dL_law_472 rfl ?_
      refine g_lor hC 474 dL_law_473 rfl ?_
      refine g_cV hC 477 2 [.int (fI x65), .long (fL (fOr (fShl x66) (fM32 x67)))] [] (cn_X5_bring l x65 (fOr (fShl x66) (fM32 x67)) _) rfl rfl tb_RS rfl gw_438 gw_441 gw_59 gw_439 gw_440 (by decide +kernel) rfl ⟨Nat.le_of_ble_eq_true rfl, Nat.le_of_ble_eq_true rfl⟩ (Nat.le_of_ble_eq_true rfl) hk.1.2 dL_law_474 rfl (fun v68 => .int (fI v68) :: []) (fun _ => rfl) (fun v68 M69 => ?_)
      refine g_aload_n hC 2 478 rfl dL_law_477 rfl rfl ?_
      refine g_aload_n hC 0 479 rfl dL_law_478 rfl rfl ?_
      refine g_iload_n hC 3 480 rfl dL_law_479 rfl rfl ?_
      refine g_iconst hC 481 dL_law_480 rfl ?_
      refine g_iadd hC 482 dL_law_481 rfl ?_
      refine g_sld hC hk.2 483 dL_law_482 rfl (fun x70 => ?_)
      refine g_aload_n hC 0 484 rfl dL_law_483 rfl rfl ?_
      refine g_iload_n hC 3 485 rfl dL_law_484 rfl rfl ?_
      refine g_iconst hC 486 dL_law_485 rfl ?_
      refine g_iadd hC 487 dL_law_486 rfl ?_
      refine g_sld hC hk.2 488 dL_law_487 rfl (fun x71 => ?_)
      refine g_i2l hC 489 dL_law_488 rfl ?_
      refine g_bipush hC 491 dL_law_489 rfl (by decide +kernel) ?_
      refine g_lshl32 hC 492 dL_law_491 rfl ?_
      refine g_aload_n hC 0 493 rfl dL_law_492 rfl rfl ?_
      refine g_iload_n hC 3 494 rfl dL_law_493 rfl rfl ?_
      refine g_iconst hC 495 dL_law_494 rfl ?_
      refine g_iadd hC 496 dL_law_495 rfl ?_
      refine g_sld hC hk.2 497 dL_law_496 rfl (fun x72 => ?_)
      refine g_i2l hC 498 dL_law_497 rfl ?_
      refine g_ldc2 hC 4294967295 501 gw_782 dL_law_498 rfl ?_
      refine g_land32 hC 502 dL_law_501 rfl ?_
      refine g_lor hC 503 dL_law_502 rfl ?_
      refine g_cV hC 506 2 [.int (fI x70), .long (fL (fOr (fShl x71) (fM32 x72)))] [.int (fI v68)] (cn_X6_bring l x70 (fOr (fShl x71) (fM32 x72)) _) rfl rfl tb_MD rfl gw_709 gw_712 gw_65 gw_710 gw_711 (by decide +kernel) rfl ⟨Nat.le_of_ble_eq_true rfl, Nat.le_of_ble_eq_true rfl⟩ (Nat.le_of_ble_eq_true rfl) hk.1.2 dL_law_503 rfl (fun v73 => .int (fI v73) :: [.int (fI v68)]) (fun _ => rfl) (fun v73 M74 => ?_)
      refine g_icmp_eq hC 899 509 dL_law_506 rfl rfl ?_ ?_
      · exact wk_L_law_J899 hC hr hk _ _ hrc _
      · refine g_iconst hC 510 dL_law_509 rfl ?_
        exact g_none
    refine g_tsw hC 7 511 dL_law_32 (by decide) rfl rfl ?_ (fun hy7 => ?_)
    · refine g_aload_n hC 1 512 rfl dL_law_511 rfl rfl ?_
      refine g_aload_n hC 0 513 rfl dL_law_512 rfl rfl ?_
      refine g_iload_n hC 3 514 rfl dL_law_513 rfl rfl ?_
      refine g_iconst hC 515 dL_law_514 rfl ?_
      refine g_iadd hC 516 dL_law_515 rfl ?_
      refine g_sld hC hk.2 517 dL_law_516 rfl (fun x75 => ?_)
      refine g_aload_n hC 0 518 rfl dL_law_517 rfl rfl ?_
      refine g_iload_n hC 3 519 rfl dL_law_518 rfl rfl ?_
      refine g_iconst hC 520 dL_law_519 rfl ?_
      refine g_iadd hC 521 dL_law_520 rfl ?_
      refine g_sld hC hk.2 522 dL_law_521 rfl (fun x76 => ?_)
      refine g_cV hC 525 2 [.int (fI x75), .int (fI x76)] [] (cn_X5_entry l x75 x76 _) rfl rfl tb_RS rfl gw_446 gw_449 gw_59 gw_447 gw_448 (by decide +kernel) rfl ⟨Nat.le_of_ble_eq_true rfl, Nat.le_of_ble_eq_true rfl⟩ (Nat.le_of_ble_eq_true rfl) hk.1.2 dL_law_522 rfl (fun v77 => .int (fI v77) :: []) (fun _ => rfl) (fun v77 M78 => ?_)
      refine g_aload_n hC 2 526 rfl dL_law_525 rfl rfl ?_
      refine g_aload_n hC 0 527 rfl dL_law_526 rfl rfl ?_
      refine g_iload_n hC 3 528 rfl dL_law_527 rfl rfl ?_
      refine g_iconst hC 529 dL_law_528 rfl ?_
      refine g_iadd hC 530 dL_law_529 rfl ?_
      refine g_sld hC hk.2 531 dL_law_530 rfl (fun x79 => ?_)
      refine g_aload_n hC 0 532 rfl dL_law_531 rfl rfl ?_
      refine g_iload_n hC 3 533 rfl dL_law_532 rfl rfl ?_
      refine g_iconst hC 534 dL_law_533 rfl ?_
      refine g_iadd hC 535 dL_law_534 rfl ?_
      refine g_sld hC hk.2 536 dL_law_535 rfl (fun x80 => ?_)
      refine g_cV hC 539 2 [.int (fI x79), .int (fI x80)] [.int (fI v77)] (cn_X6_entry l x79 x80 _) rfl rfl tb_MD rfl gw_717 gw_720 gw_65 gw_718 gw_719 (by decide +kernel) rfl ⟨Nat.le_of_ble_eq_true rfl, Nat.le_of_ble_eq_true rfl⟩ (Nat.le_of_ble_eq_true rfl) hk.1.2 dL_law_536 rfl (fun v81 => .int (fI v81) :: [.int (fI v77)]) (fun _ => rfl) (fun v81 M82 => ?_)
      refine g_icmp_eq hC 899 542 dL_law_539 rfl rfl ?_ ?_
      · exact wk_L_law_J899 hC hr hk _ _ hrc _
      · refine g_iconst hC 543 dL_law_542 rfl ?_
        exact g_none
    refine g_tsw hC 8 544 dL_law_32 (by decide) rfl rfl ?_ (fun hy8 => ?_)
    · refine g_aload_n hC 1 545 rfl dL_law_544 rfl rfl ?_
      refine g_aload_n hC 0 546 rfl dL_law_545 rfl rfl ?_
      refine g_iload_n hC 3 547 rfl dL_law_546 rfl rfl ?_
      refine g_iconst hC 548 dL_law_547 rfl ?_
      refine g_iadd hC 549 dL_law_548 rfl ?_
      refine g_sld hC hk.2 550 dL_law_549 rfl (fun x83 => ?_)
      refine g_aload_n hC 0 551 rfl dL_law_550 rfl rfl ?_
      refine g_iload_n hC 3 552 rfl dL_law_551 rfl rfl ?_
      refine g_iconst hC 553 dL_law_552 rfl ?_
      refine g_iadd hC 554 dL_law_553 rfl ?_
      refine g_sld hC hk.2 555 dL_law_554 rfl (fun x84 => ?_)
      refine g_cV hC 558 2 [.int (fI x83), .int (fI x84)] [] (cn_X5_removed l x83 x84 _) rfl rfl tb_RS rfl gw_450 gw_453 gw_59 gw_451 gw_452 (by decide +kernel) rfl ⟨Nat.le_of_ble_eq_true rfl, Nat.le_of_ble_eq_true rfl⟩ (Nat.le_of_ble_eq_true rfl) hk.1.2 dL_law_555 rfl (fun v85 => .int (fI v85) :: []) (fun _ => rfl) (fun v85 M86 => ?_)
      refine g_aload_n hC 2 559 rfl dL_law_558 rfl rfl ?_
      refine g_aload_n hC 0 560 rfl dL_law_559 rfl rfl ?_
      refine g_iload_n hC 3 561 rfl dL_law_560 rfl rfl ?_
      refine g_iconst hC 562 dL_law_561 rfl ?_
      refine g_iadd hC 563 dL_law_562 rfl ?_
      refine g_sld hC hk.2 564 dL_law_563 rfl (fun x87 => ?_)
      refine g_aload_n hC 0 565 rfl dL_law_564 rfl rfl ?_
      refine g_iload_n hC 3 566 rfl dL_law_565 rfl rfl ?_
      refine g_iconst hC 567 dL_law_566 rfl ?_
      refine g_iadd hC 568 dL_law_567 rfl ?_
      refine g_sld hC hk.2 569 dL_law_568 rfl (fun x88 => ?_)
      refine g_cV hC 572 2 [.int (fI x87), .int (fI x88)] [.int (fI v85)] (cn_X6_removed l x87 x88 _) rfl rfl tb_MD rfl gw_721 gw_724 gw_65 gw_722 gw_723 (by decide +kernel) rfl ⟨Nat.le_of_ble_eq_true rfl, Nat.le_of_ble_eq_true rfl⟩ (Nat.le_of_ble_eq_true rfl) hk.1.2 dL_law_569 rfl (fun v89 => .int (fI v89) :: [.int (fI v85)]) (fun _ => rfl) (fun v89 M90 => ?_)
      refine g_icmp_eq hC 899 575 dL_law_572 rfl rfl ?_ ?_
      · exact wk_L_law_J899 hC hr hk _ _ hrc _
      · refine g_iconst hC 576 dL_law_575 rfl ?_
        exact g_none
    refine g_tsw hC 9 577 dL_law_32 (by decide) rfl rfl ?_ (fun hy9 => ?_)
    · refine g_aload_n hC 1 578 rfl dL_law_577 rfl rfl ?_
      refine g_aload_n hC 0 579 rfl dL_law_578 rfl rfl ?_
      refine g_iload_n hC 3 580 rfl dL_law_579 rfl rfl ?_
      refine g_iconst hC 581 dL_law_580 rfl ?_
      refine g_iadd hC 582 dL_law_581 rfl ?_
      refine g_sld hC hk.2 583 dL_law_582 rfl (fun x91 => ?_)
      refine g_aload_n hC 0 584 rfl dL_law_583 rfl rfl ?_
      refine g_iload_n hC 3 585 rfl dL_law_584 rfl rfl ?_
      refine g_iconst hC 586 dL_law_585 rfl ?_
      refine g_iadd hC 587 dL_law_586 rfl ?_
      refine g_sld hC hk.2 588 dL_law_587 rfl (fun x92 => ?_)
      refine g_cV hC 591 2 [.int (fI x91), .int (fI x92)] [] (cn_X5_local l x91 x92 _) rfl rfl tb_RS rfl gw_454 gw_457 gw_59 gw_455 gw_456 (by decide +kernel) rfl ⟨Nat.le_of_ble_eq_true rfl, Nat.le_of_ble_eq_true rfl⟩ (Nat.le_of_ble_eq_true rfl) hk.1.2 dL_law_588 rfl (fun v93 => .long (fL v93) :: []) (fun _ => rfl) (fun v93 M94 => ?_)
      refine g_aload_n hC 2 592 rfl dL_law_591 rfl rfl ?_
      refine g_aload_n hC 0 593 rfl dL_law_592 rfl rfl ?_
      refine g_iload_n hC 3 594 rfl dL_law_593 rfl rfl ?_
      refine g_iconst hC 595 dL_law_594 rfl ?_
      refine g_iadd hC 596 dL_law_595 rfl ?_
      refine g_sld hC hk.2 597 dL_law_596 rfl (fun x95 => ?_)
      refine g_aload_n hC 0 598 rfl dL_law_597 rfl rfl ?_
      refine g_iload_n hC 3 599 rfl dL_law_598 rfl rfl ?_
      refine g_iconst hC 600 dL_law_599 rfl ?_
      refine g_iadd hC 601 dL_law_600 rfl ?_
      refine g_sld hC hk.2 602 dL_law_601 rfl (fun x96 => ?_)
      refine g_cV hC 605 2 [.int (fI x95), .int (fI x96)] [.long (fL v93)] (cn_X6_local l x95 x96 _) rfl rfl tb_MD rfl gw_725 gw_728 gw_65 gw_726 gw_727 (by decide +kernel) rfl ⟨Nat.le_of_ble_eq_true rfl, Nat.le_of_ble_eq_true rfl⟩ (Nat.le_of_ble_eq_true rfl) hk.1.2 dL_law_602 rfl (fun v97 => .long (fL v97) :: [.long (fL v93)]) (fun _ => rfl) (fun v97 M98 => ?_)
      refine g_lcmp_eq hC 899 609 dL_law_605 dL_law_606 rfl rfl ?_ ?_
      · exact wk_L_law_J899 hC hr hk _ _ hrc _
      · refine g_iconst hC 610 dL_law_609 rfl ?_
        exact g_none
    refine g_tsw hC 10 611 dL_law_32 (by decide) rfl rfl ?_ (fun hy10 => ?_)
    · refine g_aload_n hC 1 612 rfl dL_law_611 rfl rfl ?_
      refine g_aload_n hC 0 613 rfl dL_law_612 rfl rfl ?_
      refine g_iload_n hC 3 614 rfl dL_law_613 rfl rfl ?_
      refine g_iconst hC 615 dL_law_614 rfl ?_
      refine g_iadd hC 616 dL_law_615 rfl ?_
      refine g_sld hC hk.2 617 dL_law_616 rfl (fun x99 => ?_)
      refine g_aload_n hC 0 618 rfl dL_law_617 rfl rfl ?_
      refine g_iload_n hC 3 619 rfl dL_law_618 rfl rfl ?_
      refine g_iconst hC 620 dL_law_619 rfl ?_
      refine g_iadd hC 621 dL_law_620 rfl ?_
      refine g_sld hC hk.2 622 dL_law_621 rfl (fun x100 => ?_)
      refine g_cV hC 625 2 [.int (fI x99), .int (fI x100)] [] (cn_X5_selected l x99 x100 _) rfl rfl tb_RS rfl gw_459 gw_462 gw_59 gw_460 gw_461 (by decide +kernel) rfl ⟨Nat.le_of_ble_eq_true rfl, Nat.le_of_ble_eq_true rfl⟩ (Nat.le_of_ble_eq_true rfl) hk.1.2 dL_law_622 rfl (fun v101 => .int (fI v101) :: []) (fun _ => rfl) (fun v101 M102 => ?_)
      refine g_aload_n hC 2 626 rfl dL_law_625 rfl rfl ?_
      refine g_aload_n hC 0 627 rfl dL_law_626 rfl rfl ?_
      refine g_iload_n hC 3 628 rfl dL_law_627 rfl rfl ?_
      refine g_iconst hC 629 dL_law_628 rfl ?_
      refine g_iadd hC 630 dL_law_629 rfl ?_
      refine g_sld hC hk.2 631 dL_law_630 rfl (fun x103 => ?_)
      refine g_aload_n hC 0 632 rfl dL_law_631 rfl rfl ?_
      refine g_iload_n hC 3 633 rfl dL_law_632 rfl rfl ?_
      refine g_iconst hC 634 dL_law_633 rfl ?_
      refine g_iadd hC 635 dL_law_634 rfl ?_
      refine g_sld hC hk.2 636 dL_law_635 rfl (fun x104 => ?_)
      refine g_cV hC 639 2 [.int (fI x103), .int (fI x104)] [.int (fI v101)] (cn_X6_selected l x103 x104 _) rfl rfl tb_MD rfl gw_730 gw_733 gw_65 gw_731 gw_732 (by decide +kernel) rfl ⟨Nat.le_of_ble_eq_true rfl, Nat.le_of_ble_eq_true rfl⟩ (Nat.le_of_ble_eq_true rfl) hk.1.2 dL_law_636 rfl (fun v105 => .int (fI v105) :: [.int (fI v101)]) (fun _ => rfl) (fun v105 M106 => ?_)
      refine g_icmp_eq hC 899 642 dL_law_639 rfl rfl ?_ ?_
      · exact wk_L_law_J899 hC hr hk _ _ hrc _
      · refine g_iconst hC 643 dL_law_642 rfl ?_
        exact g_none
    refine g_tsw hC 11 644 dL_law_32 (by decide) rfl rfl ?_ (fun hy11 => ?_)
    · refine g_aload_n hC 1 645 rfl dL_law_644 rfl rfl ?_
      refine g_aload_n hC 0 646 rfl dL_law_645 rfl rfl ?_
      refine g_iload_n hC 3 647 rfl dL_law_646 rfl rfl ?_
      refine g_iconst hC 648 dL_law_647 rfl ?_
      refine g_iadd hC 649 dL_law_648 rfl ?_
      refine g_sld hC hk.2 650 dL_law_649 rfl (fun x107 => ?_)
      refine g_aload_n hC 0 651 rfl dL_law_650 rfl rfl ?_
      refine g_iload_n hC 3 652 rfl dL_law_651 rfl rfl ?_
      refine g_iconst hC 653 dL_law_652 rfl ?_
      refine g_iadd hC 654 dL_law_653 rfl ?_
      refine g_sld hC hk.2 655 dL_law_654 rfl (fun x108 => ?_)
      refine g_cV hC 658 2 [.int (fI x107), .int (fI x108)] [] (cn_X5_sticky l x107 x108 _) rfl rfl tb_RS rfl gw_463 gw_466 gw_59 gw_464 gw_465 (by decide +kernel) rfl ⟨Nat.le_of_ble_eq_true rfl, Nat.le_of_ble_eq_true rfl⟩ (Nat.le_of_ble_eq_true rfl) hk.1.2 dL_law_655 rfl (fun v109 => .int (fI v109) :: []) (fun _ => rfl) (fun v109 M110 => ?_)
      refine g_aload_n hC 2 659 rfl dL_law_658 rfl rfl ?_
      refine g_aload_n hC 0 660 rfl dL_law_659 rfl rfl ?_
      refine g_iload_n hC 3 661 rfl dL_law_660 rfl rfl ?_
      refine g_iconst hC 662 dL_law_661 rfl ?_
      refine g_iadd hC 663 dL_law_662 rfl ?_
      refine g_sld hC hk.2 664 dL_law_663 rfl (fun x111 => ?_)
      refine g_aload_n hC 0 665 rfl dL_law_664 rfl rfl ?_
      refine g_iload_n hC 3 666 rfl dL_law_665 rfl rfl ?_
      refine g_iconst hC 667 dL_law_666 rfl ?_
      refine g_iadd hC 668 dL_law_667 rfl ?_
      refine g_sld hC hk.2 669 dL_law_668 rfl (fun x112 => ?_)
      refine g_cV hC 672 2 [.int (fI x111), .int (fI x112)] [.int (fI v109)] (cn_X6_sticky l x111 x112 _) rfl rfl tb_MD rfl gw_734 gw_737 gw_65 gw_735 gw_736 (by decide +kernel) rfl ⟨Nat.le_of_ble_eq_true rfl, Nat.le_of_ble_eq_true rfl⟩ (Nat.le_of_ble_eq_true rfl) hk.1.2 dL_law_669 rfl (fun v113 => .int (fI v113) :: [.int (fI v109)]) (fun _ => rfl) (fun v113 M114 => ?_)
      refine g_icmp_eq hC 899 675 dL_law_672 rfl rfl ?_ ?_
      · exact wk_L_law_J899 hC hr hk _ _ hrc _
      · refine g_iconst hC 676 dL_law_675 rfl ?_
        exact g_none
    refine g_tsw hC 12 677 dL_law_32 (by decide) rfl rfl ?_ (fun hy12 => ?_)
    · refine g_aload_n hC 1 678 rfl dL_law_677 rfl rfl ?_
      refine g_aload_n hC 0 679 rfl dL_law_678 rfl rfl ?_
      refine g_iload_n hC 3 680 rfl dL_law_679 rfl rfl ?_
      refine g_iconst hC 681 dL_law_680 rfl ?_
      refine g_iadd hC 682 dL_law_681 rfl ?_
      refine g_sld hC hk.2 683 dL_law_682 rfl (fun x115 => ?_)
      refine g_cV hC 686 1 [.int (fI x115)] [] (cn_X5_revisions l x115 _) rfl rfl tb_RS rfl gw_467 gw_470 gw_59 gw_468 gw_469 (by decide +kernel) rfl ⟨Nat.le_of_ble_eq_true rfl, Nat.le_of_ble_eq_true rfl⟩ (Nat.le_of_ble_eq_true rfl) hk.1.2 dL_law_683 rfl (fun v116 => .int (fI v116) :: []) (fun _ => rfl) (fun v116 M117 => ?_)
      refine g_aload_n hC 2 687 rfl dL_law_686 rfl rfl ?_
      refine g_aload_n hC 0 688 rfl dL_law_687 rfl rfl ?_
      refine g_iload_n hC 3 689 rfl dL_law_688 rfl rfl ?_
      refine g_iconst hC 690 dL_law_689 rfl ?_
      refine g_iadd hC 691 dL_law_690 rfl ?_
      refine g_sld hC hk.2 692 dL_law_691 rfl (fun x118 => ?_)
      refine g_cV hC 695 1 [.int (fI x118)] [.int (fI v116)] (cn_X6_revisions l x118 _) rfl rfl tb_MD rfl gw_738 gw_741 gw_65 gw_739 gw_740 (by decide +kernel) rfl ⟨Nat.le_of_ble_eq_true rfl, Nat.le_of_ble_eq_true rfl⟩ (Nat.le_of_ble_eq_true rfl) hk.1.2 dL_law_692 rfl (fun v119 => .int (fI v119) :: [.int (fI v116)]) (fun _ => rfl) (fun v119 M120 => ?_)
      refine g_icmp_eq hC 899 698 dL_law_695 rfl rfl ?_ ?_
      · exact wk_L_law_J899 hC hr hk _ _ hrc _
      · refine g_iconst hC 699 dL_law_698 rfl ?_
        exact g_none
    refine g_tsw hC 13 700 dL_law_32 (by decide) rfl rfl ?_ (fun hy13 => ?_)
    · refine g_aload_n hC 1 701 rfl dL_law_700 rfl rfl ?_
      refine g_aload_n hC 0 702 rfl dL_law_701 rfl rfl ?_
      refine g_iload_n hC 3 703 rfl dL_law_702 rfl rfl ?_
      refine g_iconst hC 704 dL_law_703 rfl ?_
      refine g_iadd hC 705 dL_law_704 rfl ?_
      refine g_sld hC hk.2 706 dL_law_705 rfl (fun x121 => ?_)
      refine g_aload_n hC 0 707 rfl dL_law_706 rfl rfl ?_
      refine g_iload_n hC 3 708 rfl dL_law_707 rfl rfl ?_
      refine g_iconst hC 709 dL_law_708 rfl ?_
      refine g_iadd hC 710 dL_law_709 rfl ?_
      refine g_sld hC hk.2 711 dL_law_710 rfl (fun x122 => ?_)
      refine g_aload_n hC 0 712 rfl dL_law_711 rfl rfl ?_
      refine g_iload_n hC 3 713 rfl dL_law_712 rfl rfl ?_
      refine g_iconst hC 714 dL_law_713 rfl ?_
      refine g_iadd hC 715 dL_law_714 rfl ?_
      refine g_sld hC hk.2 716 dL_law_715 rfl (fun x123 => ?_)
      refine g_cV hC 719 3 [.int (fI x121), .int (fI x122), .int (fI x123)] [] (cn_X5_number l x121 x122 x123 _) rfl rfl tb_RS rfl gw_471 gw_474 gw_59 gw_472 gw_473 (by decide +kernel) rfl ⟨Nat.le_of_ble_eq_true rfl, Nat.le_of_ble_eq_true rfl⟩ (Nat.le_of_ble_eq_true rfl) hk.1.2 dL_law_716 rfl (fun v124 => .int (fI v124) :: []) (fun _ => rfl) (fun v124 M125 => ?_)
      refine g_aload_n hC 2 720 rfl dL_law_719 rfl rfl ?_
      refine g_aload_n hC 0 721 rfl dL_law_720 rfl rfl ?_
      refine g_iload_n hC 3 722 rfl dL_law_721 rfl rfl ?_
      refine g_iconst hC 723 dL_law_722 rfl ?_
      refine g_iadd hC 724 dL_law_723 rfl ?_
      refine g_sld hC hk.2 725 dL_law_724 rfl (fun x126 => ?_)
      refine g_aload_n hC 0 726 rfl dL_law_725 rfl rfl ?_
      refine g_iload_n hC 3 727 rfl dL_law_726 rfl rfl ?_
      refine g_iconst hC 728 dL_law_727 rfl ?_
      refine g_iadd hC 729 dL_law_728 rfl ?_
      refine g_sld hC hk.2 730 dL_law_729 rfl (fun x127 => ?_)
      refine g_aload_n hC 0 731 rfl dL_law_730 rfl rfl ?_
      refine g_iload_n hC 3 732 rfl dL_law_731 rfl rfl ?_
      refine g_iconst hC 733 dL_law_732 rfl ?_
      refine g_iadd hC 734 dL_law_733 rfl ?_
      refine g_sld hC hk.2 735 dL_law_734 rfl (fun x128 => ?_)
      refine g_cV hC 738 3 [.int (fI x126), .int (fI x127), .int (fI x128)] [.int (fI v124)] (cn_X6_number l x126 x127 x128 _) rfl rfl tb_MD rfl gw_742 gw_745 gw_65 gw_743 gw_744 (by decide +kernel) rfl ⟨Nat.le_of_ble_eq_true rfl, Nat.le_of_ble_eq_true rfl⟩ (Nat.le_of_ble_eq_true rfl) hk.1.2 dL_law_735 rfl (fun v129 => .int (fI v129) :: [.int (fI v124)]) (fun _ => rfl) (fun v129 M130 => ?_)
      refine g_icmp_eq hC 899 741 dL_law_738 rfl rfl ?_ ?_
      · exact wk_L_law_J899 hC hr hk _ _ hrc _
      · refine g_iconst hC 742 dL_law_741 rfl ?_
        exact g_none
    refine g_tsw hC 14 743 dL_law_32 (by decide) rfl rfl ?_ (fun hy14 => ?_)
    · refine g_aload_n hC 1 744 rfl dL_law_743 rfl rfl ?_
      refine g_aload_n hC 0 745 rfl dL_law_744 rfl rfl ?_
      refine g_iload_n hC 3 746 rfl dL_law_745 rfl rfl ?_
      refine g_iconst hC 747 dL_law_746 rfl ?_
      refine g_iadd hC 748 dL_law_747 rfl ?_
      refine g_sld hC hk.2 749 dL_law_748 rfl (fun x131 => ?_)
      refine g_aload_n hC 0 750 rfl dL_law_749 rfl rfl ?_
      refine g_iload_n hC 3 751 rfl dL_law_750 rfl rfl ?_
      refine g_iconst hC 752 dL_law_751 rfl ?_
      refine g_iadd hC 753 dL_law_752 rfl ?_
      refine g_sld hC hk.2 754 dL_law_753 rfl (fun x132 => ?_)
      refine g_cV hC 757 2 [.int (fI x131), .int (fI x132)] [] (cn_X5_content l x131 x132 _) rfl rfl tb_RS rfl gw_487 gw_490 gw_59 gw_488 gw_489 (by decide +kernel) rfl ⟨Nat.le_of_ble_eq_true rfl, Nat.le_of_ble_eq_true rfl⟩ (Nat.le_of_ble_eq_true rfl) hk.1.2 dL_law_754 rfl (fun v133 => .long (fL v133) :: []) (fun _ => rfl) (fun v133 M134 => ?_)
      refine g_aload_n hC 2 758 rfl dL_law_757 rfl rfl ?_
      refine g_aload_n hC 0 759 rfl dL_law_758 rfl rfl ?_
      refine g_iload_n hC 3 760 rfl dL_law_759 rfl rfl ?_
      refine g_iconst hC 761 dL_law_760 rfl ?_
      refine g_iadd hC 762 dL_law_761 rfl ?_
      refine g_sld hC hk.2 763 dL_law_762 rfl (fun x135 => ?_)
      refine g_aload_n hC 0 764 rfl dL_law_763 rfl rfl ?_
      refine g_iload_n hC 3 765 rfl dL_law_764 rfl rfl ?_
      refine g_iconst hC 766 dL_law_765 rfl ?_
      refine g_iadd hC 767 dL_law_766 rfl ?_
      refine g_sld hC hk.2 768 dL_law_767 rfl (fun x136 => ?_)
      refine g_cV hC 771 2 [.int (fI x135), .int (fI x136)] [.long (fL v133)] (cn_X6_content l x135 x136 _) rfl rfl tb_MD rfl gw_754 gw_757 gw_65 gw_755 gw_756 (by decide +kernel) rfl ⟨Nat.le_of_ble_eq_true rfl, Nat.le_of_ble_eq_true rfl⟩ (Nat.le_of_ble_eq_true rfl) hk.1.2 dL_law_768 rfl (fun v137 => .long (fL v137) :: [.long (fL v133)]) (fun _ => rfl) (fun v137 M138 => ?_)
      refine g_lcmp_eq hC 899 775 dL_law_771 dL_law_772 rfl rfl ?_ ?_
      · exact wk_L_law_J899 hC hr hk _ _ hrc _
      · refine g_iconst hC 776 dL_law_775 rfl ?_
        exact g_none
    refine g_tsw hC 15 777 dL_law_32 (by decide) rfl rfl ?_ (fun hy15 => ?_)
    · refine g_aload_n hC 1 778 rfl dL_law_777 rfl rfl ?_
      refine g_aload_n hC 0 779 rfl dL_law_778 rfl rfl ?_
      refine g_iload_n hC 3 780 rfl dL_law_779 rfl rfl ?_
      refine g_iconst hC 781 dL_law_780 rfl ?_
      refine g_iadd hC 782 dL_law_781 rfl ?_
      refine g_sld hC hk.2 783 dL_law_782 rfl (fun x139 => ?_)
      refine g_aload_n hC 0 784 rfl dL_law_783 rfl rfl ?_
      refine g_iload_n hC 3 785 rfl dL_law_784 rfl rfl ?_
      refine g_iconst hC 786 dL_law_785 rfl ?_
      refine g_iadd hC 787 dL_law_786 rfl ?_
      refine g_sld hC hk.2 788 dL_law_787 rfl (fun x140 => ?_)
      refine g_cV hC 791 2 [.int (fI x139), .int (fI x140)] [] (cn_X5_dead l x139 x140 _) rfl rfl tb_RS rfl gw_491 gw_494 gw_59 gw_492 gw_493 (by decide +kernel) rfl ⟨Nat.le_of_ble_eq_true rfl, Nat.le_of_ble_eq_true rfl⟩ (Nat.le_of_ble_eq_true rfl) hk.1.2 dL_law_788 rfl (fun v141 => .int (fI v141) :: []) (fun _ => rfl) (fun v141 M142 => ?_)
      refine g_aload_n hC 2 792 rfl dL_law_791 rfl rfl ?_
      refine g_aload_n hC 0 793 rfl dL_law_792 rfl rfl ?_
      refine g_iload_n hC 3 794 rfl dL_law_793 rfl rfl ?_
      refine g_iconst hC 795 dL_law_794 rfl ?_
      refine g_iadd hC 796 dL_law_795 rfl ?_
      refine g_sld hC hk.2 797 dL_law_796 rfl (fun x143 => ?_)
      refine g_aload_n hC 0 798 rfl dL_law_797 rfl rfl ?_
      refine g_iload_n hC 3 799 rfl dL_law_798 rfl rfl ?_
      refine g_iconst hC 800 dL_law_799 rfl ?_
      refine g_iadd hC 801 dL_law_800 rfl ?_
      refine g_sld hC hk.2 802 dL_law_801 rfl (fun x144 => ?_)
      refine g_cV hC 805 2 [.int (fI x143), .int (fI x144)] [.int (fI v141)] (cn_X6_dead l x143 x144 _) rfl rfl tb_MD rfl gw_758 gw_761 gw_65 gw_759 gw_760 (by decide +kernel) rfl ⟨Nat.le_of_ble_eq_true rfl, Nat.le_of_ble_eq_true rfl⟩ (Nat.le_of_ble_eq_true rfl) hk.1.2 dL_law_802 rfl (fun v145 => .int (fI v145) :: [.int (fI v141)]) (fun _ => rfl) (fun v145 M146 => ?_)
      refine g_icmp_eq hC 899 808 dL_law_805 rfl rfl ?_ ?_
      · exact wk_L_law_J899 hC hr hk _ _ hrc _
      · refine g_iconst hC 809 dL_law_808 rfl ?_
        exact g_none
    refine g_tsw hC 16 810 dL_law_32 (by decide) rfl rfl ?_ (fun hy16 => ?_)
    · refine g_aload_n hC 1 811 rfl dL_law_810 rfl rfl ?_
      refine g_aload_n hC 0 812 rfl dL_law_811 rfl rfl ?_
      refine g_iload_n hC 3 813 rfl dL_law_812 rfl rfl ?_
      refine g_iconst hC 814 dL_law_813 rfl ?_
      refine g_iadd hC 815 dL_law_814 rfl ?_
      refine g_sld hC hk.2 816 dL_law_815 rfl (fun x147 => ?_)
      refine g_aload_n hC 0 817 rfl dL_law_816 rfl rfl ?_
      refine g_iload_n hC 3 818 rfl dL_law_817 rfl rfl ?_
      refine g_iconst hC 819 dL_law_818 rfl ?_
      refine g_iadd hC 820 dL_law_819 rfl ?_
      refine g_sld hC hk.2 821 dL_law_820 rfl (fun x148 => ?_)
      refine g_cV hC 824 2 [.int (fI x147), .int (fI x148)] [] (cn_X5_kept l x147 x148 _) rfl rfl tb_RS rfl gw_495 gw_498 gw_59 gw_496 gw_497 (by decide +kernel) rfl ⟨Nat.le_of_ble_eq_true rfl, Nat.le_of_ble_eq_true rfl⟩ (Nat.le_of_ble_eq_true rfl) hk.1.2 dL_law_821 rfl (fun v149 => .int (fI v149) :: []) (fun _ => rfl) (fun v149 M150 => ?_)
      refine g_aload_n hC 2 825 rfl dL_law_824 rfl rfl ?_
      refine g_aload_n hC 0 826 rfl dL_law_825 rfl rfl ?_
      refine g_iload_n hC 3 827 rfl dL_law_826 rfl rfl ?_
      refine g_iconst hC 828 dL_law_827 rfl ?_
      refine g_iadd hC 829 dL_law_828 rfl ?_
      refine g_sld hC hk.2 830 dL_law_829 rfl (fun x151 => ?_)
      refine g_aload_n hC 0 831 rfl dL_law_830 rfl rfl ?_
      refine g_iload_n hC 3 832 rfl dL_law_831 rfl rfl ?_
      refine g_iconst hC 833 dL_law_832 rfl ?_
      refine g_iadd hC 834 dL_law_833 rfl ?_
      refine g_sld hC hk.2 835 dL_law_834 rfl (fun x152 => ?_)
      refine g_cV hC 838 2 [.int (fI x151), .int (fI x152)] [.int (fI v149)] (cn_X6_kept l x151 x152 _) rfl rfl tb_MD rfl gw_762 gw_765 gw_65 gw_763 gw_764 (by decide +kernel) rfl ⟨Nat.le_of_ble_eq_true rfl, Nat.le_of_ble_eq_true rfl⟩ (Nat.le_of_ble_eq_true rfl) hk.1.2 dL_law_835 rfl (fun v153 => .int (fI v153) :: [.int (fI v149)]) (fun _ => rfl) (fun v153 M154 => ?_)
      refine g_icmp_eq hC 899 841 dL_law_838 rfl rfl ?_ ?_
      · exact wk_L_law_J899 hC hr hk _ _ hrc _
      · refine g_iconst hC 842 dL_law_841 rfl ?_
        exact g_none
    refine g_tsw hC 17 843 dL_law_32 (by decide) rfl rfl ?_ (fun hy17 => ?_)
    · refine g_aload_n hC 1 844 rfl dL_law_843 rfl rfl ?_
      refine g_aload_n hC 0 845 rfl dL_law_844 rfl rfl ?_
      refine g_iload_n hC 3 846 rfl dL_law_845 rfl rfl ?_
      refine g_iconst hC 847 dL_law_846 rfl ?_
      refine g_iadd hC 848 dL_law_847 rfl ?_
      refine g_sld hC hk.2 849 dL_law_848 rfl (fun x155 => ?_)
      refine g_aload_n hC 0 850 rfl dL_law_849 rfl rfl ?_
      refine g_iload_n hC 3 851 rfl dL_law_850 rfl rfl ?_
      refine g_iconst hC 852 dL_law_851 rfl ?_
      refine g_iadd hC 853 dL_law_852 rfl ?_
      refine g_sld hC hk.2 854 dL_law_853 rfl (fun x156 => ?_)
      refine g_cV hC 857 2 [.int (fI x155), .int (fI x156)] [] (cn_X5_named l x155 x156 _) rfl rfl tb_RS rfl gw_513 gw_516 gw_59 gw_514 gw_515 (by decide +kernel) rfl ⟨Nat.le_of_ble_eq_true rfl, Nat.le_of_ble_eq_true rfl⟩ (Nat.le_of_ble_eq_true rfl) hk.1.2 dL_law_854 rfl (fun v157 => .int (fI v157) :: []) (fun _ => rfl) (fun v157 M158 => ?_)
      refine g_aload_n hC 2 858 rfl dL_law_857 rfl rfl ?_
      refine g_aload_n hC 0 859 rfl dL_law_858 rfl rfl ?_
      refine g_iload_n hC 3 860 rfl dL_law_859 rfl rfl ?_
      refine g_iconst hC 861 dL_law_860 rfl ?_
      refine g_iadd hC 862 dL_law_861 rfl ?_
      refine g_sld hC hk.2 863 dL_law_862 rfl (fun x159 => ?_)
      refine g_aload_n hC 0 864 rfl dL_law_863 rfl rfl ?_
      refine g_iload_n hC 3 865 rfl dL_law_864 rfl rfl ?_
      refine g_iconst hC 866 dL_law_865 rfl ?_
      refine g_iadd hC 867 dL_law_866 rfl ?_
      refine g_sld hC hk.2 868 dL_law_867 rfl (fun x160 => ?_)
      refine g_cV hC 871 2 [.int (fI x159), .int (fI x160)] [.int (fI v157)] (cn_X6_named l x159 x160 _) rfl rfl tb_MD rfl gw_774 gw_777 gw_65 gw_775 gw_776 (by decide +kernel) rfl ⟨Nat.le_of_ble_eq_true rfl, Nat.le_of_ble_eq_true rfl⟩ (Nat.le_of_ble_eq_true rfl) hk.1.2 dL_law_868 rfl (fun v161 => .int (fI v161) :: [.int (fI v157)]) (fun _ => rfl) (fun v161 M162 => ?_)
      refine g_icmp_eq hC 899 874 dL_law_871 rfl rfl ?_ ?_
      · exact wk_L_law_J899 hC hr hk _ _ hrc _
      · refine g_iconst hC 875 dL_law_874 rfl ?_
        exact g_none
    refine g_tsw hC 18 876 dL_law_32 (by decide) rfl rfl ?_ (fun hy18 => ?_)
    · refine g_aload_n hC 1 877 rfl dL_law_876 rfl rfl ?_
      refine g_aload_n hC 0 878 rfl dL_law_877 rfl rfl ?_
      refine g_iload_n hC 3 879 rfl dL_law_878 rfl rfl ?_
      refine g_iconst hC 880 dL_law_879 rfl ?_
      refine g_iadd hC 881 dL_law_880 rfl ?_
      refine g_sld hC hk.2 882 dL_law_881 rfl (fun x163 => ?_)
      refine g_cV hC 885 1 [.int (fI x163)] [] (cn_X5_standard l x163 _) rfl rfl tb_RS rfl gw_517 gw_520 gw_59 gw_518 gw_519 (by decide +kernel) rfl ⟨Nat.le_of_ble_eq_true rfl, Nat.le_of_ble_eq_true rfl⟩ (Nat.le_of_ble_eq_true rfl) hk.1.2 dL_law_882 rfl (fun v164 => .int (fI v164) :: []) (fun _ => rfl) (fun v164 M165 => ?_)
      refine g_aload_n hC 2 886 rfl dL_law_885 rfl rfl ?_
      refine g_aload_n hC 0 887 rfl dL_law_886 rfl rfl ?_
      refine g_iload_n hC 3 888 rfl dL_law_887 rfl rfl ?_
      refine g_iconst hC 889 dL_law_888 rfl ?_
      refine g_iadd hC 890 dL_law_889 rfl ?_
      refine g_sld hC hk.2 891 dL_law_890 rfl (fun x166 => ?_)
      refine g_cV hC 894 1 [.int (fI x166)] [.int (fI v164)] (cn_X6_standard l x166 _) rfl rfl tb_MD rfl gw_778 gw_781 gw_65 gw_779 gw_780 (by decide +kernel) rfl ⟨Nat.le_of_ble_eq_true rfl, Nat.le_of_ble_eq_true rfl⟩ (Nat.le_of_ble_eq_true rfl) hk.1.2 dL_law_891 rfl (fun v167 => .int (fI v167) :: [.int (fI v164)]) (fun _ => rfl) (fun v167 M168 => ?_)
      refine g_icmp_eq hC 899 897 dL_law_894 rfl rfl ?_ ?_
      · exact wk_L_law_J899 hC hr hk _ _ hrc _
      · refine g_iconst hC 898 dL_law_897 rfl ?_
        exact g_none
    refine g_tswO hC 899 dL_law_32 (by omega) rfl ?_
    exact wk_L_law_J899 hC hr hk _ _ hrc _
set_option maxRecDepth 100000 in
set_option maxHeartbeats 4000000 in
theorem wk_L_law_L18 {l : Launch} {p : Program} {e : Env} {s : State} {m : MethodId} {b L : Nat} {xs : Nat → Int32} {below : List Frame} {meth : Method} {c : Code} {D : va_G} {aC : Nat → ClassId} {ad : Nat → Nat} {CC SS : Nat} (hC : fCx p s m #[Value.ref b] c vwCl D aC TB ad (fun q => s.heap.size ≤ q) goodTs code RL 4) (hr : meth.sig.returnType = ret) (hk : (meth.locks = false ∧ CC ≤ 600000 ∧ SS ≤ 7302250) ∧ va_X b L xs s s.heap ∧ b < s.heap.size ∧ ¬ (s.heap.size ≤ b) ∧ L ≤ 2147483647) (n : Nat) : ∀ (a3 : Int) (M : fMem), GL l p e s m b below meth c D aC ad CC SS 18 [(0, .ref b), (1, .ref (ad 0)), (2, .ref (ad 115)), (3, .int (fI a3))] [] M (dn_L_law_L18 (fun j => (xs j).toInt) L n a3 M) := by
  induction n with
  | zero => intro a3 M; exact g_none
  | succ n ih => intro a3 M; exact wk_L_law_L18B hC hr hk (fun a3 M => dn_L_law_L18 (fun j => (xs j).toInt) L n a3 M) ih a3 M
