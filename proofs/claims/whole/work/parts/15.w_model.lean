def dn_X6_below (a0 : Int) (a1 : Int) (M : fMem) : fOp :=
  fLt a0 0 (fRz 0 M) (fLe a1 a0 (fRz 0 M) (fRz 1 M))
set_option maxRecDepth 100000 in
set_option maxHeartbeats 4000000 in
theorem wk_X6_below {l : Launch} {p : Program} {e : Env} {s : State} {m : MethodId} {args : Array Value} {below : List Frame} {meth : Method} {c : Code} {D : va_G} {aC : Nat → ClassId} {ad : Nat → Nat} (hC : fCx p s m args c vwCl D aC TB ad (fFr ad TB) goodTs cX6_below RX6 2) (hr : meth.sig.returnType = some .boolean) (hk : meth.locks = false) (a0 : Int) (a1 : Int) (M : fMem) : GM l p e s m args below meth c D aC ad 2 0 0 0 0 [(0, .int (fI a0)), (1, .int (fI a1))] [] M (dn_X6_below a0 a1 M) := by
  unfold dn_X6_below
  refine g_iload_n hC 0 1 rfl dX6_below_0 rfl rfl ?_
  refine g_if_lt hC 13 4 dX6_below_1 rfl rfl ?_ ?_
  · refine g_iconst hC 14 dX6_below_13 rfl ?_
    exact g_zreturn hC hr hk dX6_below_14
  · refine g_iload_n hC 0 5 rfl dX6_below_4 rfl rfl ?_
    refine g_iload_n hC 1 6 rfl dX6_below_5 rfl rfl ?_
    refine g_icmp_ge hC 13 9 dX6_below_6 rfl rfl ?_ ?_
    · refine g_iconst hC 14 dX6_below_13 rfl ?_
      exact g_zreturn hC hr hk dX6_below_14
    · refine g_iconst hC 10 dX6_below_9 rfl ?_
      refine g_goto hC 14 dX6_below_10 rfl ?_
      exact g_zreturn hC hr hk dX6_below_14
theorem cn_X6_below (l : Launch) (a0 : Int) (a1 : Int) (M : fMem) : fMt l vwCl TB yX6_below cX6_below 2 (some .boolean) 0 0 0 (fun ad => [.int (fI a0), .int (fI a1)]) M (dn_X6_below a0 a1 M) :=
  fMt.of (by decide +kernel) (fun _ => Nat.le_of_ble_eq_true rfl) (fun p e s m args below meth c D aC ad hC hr hk => wk_X6_below hC hr hk a0 a1 M)
def dn_X6_noPair_J16  (a0 a1 : Int) (M : fMem) : fOp :=
  fRz 1 M
set_option maxRecDepth 100000 in
set_option maxHeartbeats 4000000 in
theorem wk_X6_noPair_J16 {l : Launch} {p : Program} {e : Env} {s : State} {m : MethodId} {args : Array Value} {below : List Frame} {meth : Method} {c : Code} {D : va_G} {aC : Nat → ClassId} {ad : Nat → Nat} (hC : fCx p s m args c vwCl D aC TB ad (fFr ad TB) goodTs cX6_noPair RX6 2) (hr : meth.sig.returnType = some .boolean) (hk : meth.locks = false) (a0 a1 : Int)  (M : fMem) : GM l p e s m args below meth c D aC ad 2 1 21 0 16 [(0, .int (fI a0)), (1, .int (fI a1))] [] M (dn_X6_noPair_J16 a0 a1 M) := by
  unfold dn_X6_noPair_J16
  refine g_iconst hC 17 dX6_noPair_16 rfl ?_
  refine g_goto hC 21 dX6_noPair_17 rfl ?_
  exact g_zreturn hC hr hk dX6_noPair_21
def dn_X6_noPair (a0 : Int) (a1 : Int) (M : fMem) : fOp :=
  fCl (dn_X6_below a0 3 M) (fun v1 M2 => fEq v1 0 (dn_X6_noPair_J16 a0 a1 M2) (fCl (dn_X6_below a1 4 M2) (fun v3 M4 => fEq v3 0 (dn_X6_noPair_J16 a0 a1 M4) (fRz 0 M4))))
set_option maxRecDepth 100000 in
set_option maxHeartbeats 4000000 in
theorem wk_X6_noPair {l : Launch} {p : Program} {e : Env} {s : State} {m : MethodId} {args : Array Value} {below : List Frame} {meth : Method} {c : Code} {D : va_G} {aC : Nat → ClassId} {ad : Nat → Nat} (hC : fCx p s m args c vwCl D aC TB ad (fFr ad TB) goodTs cX6_noPair RX6 2) (hr : meth.sig.returnType = some .boolean) (hk : meth.locks = false) (a0 : Int) (a1 : Int) (M : fMem) : GM l p e s m args below meth c D aC ad 2 1 21 0 0 [(0, .int (fI a0)), (1, .int (fI a1))] [] M (dn_X6_noPair a0 a1 M) := by
  unfold dn_X6_noPair
  refine g_iload_n hC 0 1 rfl dX6_noPair_0 rfl rfl ?_
  refine g_iconst hC 2 dX6_noPair_1 rfl ?_
  refine g_cS hC 5 2 [.int (fI a0), .int (fI 3)] [] (cn_X6_below l a0 3 _) rfl rfl gw_601 gw_603 gw_65 gw_602 (by decide +kernel) rfl ⟨Nat.le_of_ble_eq_true rfl, Nat.le_of_ble_eq_true rfl⟩ (Nat.le_of_ble_eq_true rfl) ⟨Nat.zero_le _, Nat.zero_le _⟩ dX6_noPair_2 rfl (fun v1 => .int (fI v1) :: []) (fun _ => rfl) (fun v1 M2 => ?_)
  refine g_if_eq hC 16 8 dX6_noPair_5 rfl rfl ?_ ?_
  · exact wk_X6_noPair_J16 hC hr hk _ _ _
  · refine g_iload_n hC 1 9 rfl dX6_noPair_8 rfl rfl ?_
    refine g_iconst hC 10 dX6_noPair_9 rfl ?_
    refine g_cS hC 13 2 [.int (fI a1), .int (fI 4)] [] (cn_X6_below l a1 4 _) rfl rfl gw_601 gw_603 gw_65 gw_602 (by decide +kernel) rfl ⟨Nat.le_of_ble_eq_true rfl, Nat.le_of_ble_eq_true rfl⟩ (Nat.le_of_ble_eq_true rfl) ⟨Nat.zero_le _, Nat.zero_le _⟩ dX6_noPair_10 rfl (fun v3 => .int (fI v3) :: []) (fun _ => rfl) (fun v3 M4 => ?_)
    refine g_if_ne hC 20 16 dX6_noPair_13 rfl rfl ?_ ?_
    · refine g_iconst hC 21 dX6_noPair_20 rfl ?_
      exact g_zreturn hC hr hk dX6_noPair_21
    · exact wk_X6_noPair_J16 hC hr hk _ _ _
theorem cn_X6_noPair (l : Launch) (a0 : Int) (a1 : Int) (M : fMem) : fMt l vwCl TB yX6_noPair cX6_noPair 2 (some .boolean) 1 21 0 (fun ad => [.int (fI a0), .int (fI a1)]) M (dn_X6_noPair a0 a1 M) :=
  fMt.of (by decide +kernel) (fun _ => Nat.le_of_ble_eq_true rfl) (fun p e s m args below meth c D aC ad hC hr hk => wk_X6_noPair hC hr hk a0 a1 M)
def dn_X6_size_L4B  (a0 : Int) (r : Int → Int → fMem → fOp) (a2 a3 : Int) (M : fMem) : fOp :=
  fLtL 0 a3 (fDvL a3 32 (fun x1 => r (a2 + 1) x1 M)) (some (a2, M))
def dn_X6_size_L4  (a0 : Int) : Nat → Int → Int → fMem → fOp
  | 0, _, _, _ => none
  | n + 1, a2, a3, M => dn_X6_size_L4B a0 (fun a2 a3 M => dn_X6_size_L4 a0 n a2 a3 M) a2 a3 M
set_option maxRecDepth 100000 in
set_option maxHeartbeats 4000000 in
theorem wk_X6_size_L4B {l : Launch} {p : Program} {e : Env} {s : State} {m : MethodId} {args : Array Value} {below : List Frame} {meth : Method} {c : Code} {D : va_G} {aC : Nat → ClassId} {ad : Nat → Nat} (hC : fCx p s m args c vwCl D aC TB ad (fFr ad TB) goodTs cX6_size RX6 5) (hr : meth.sig.returnType = some .int) (hk : meth.locks = false) (a0 : Int) (r : Int → Int → fMem → fOp) (hrc : ∀ (a2 a3 : Int) (M : fMem), GM l p e s m args below meth c D aC ad 5 0 0 0 4 [(0, .long (fL a0)), (2, .int (fI a2)), (3, .long (fL a3))] [] M (r a2 a3 M)) (a2 a3 : Int) (M : fMem) : GM l p e s m args below meth c D aC ad 5 0 0 0 4 [(0, .long (fL a0)), (2, .int (fI a2)), (3, .long (fL a3))] [] M (dn_X6_size_L4B a0 r a2 a3 M) := by
  unfold dn_X6_size_L4B
  refine g_lload_n hC 2 5 rfl dX6_size_4 rfl rfl ?_
  refine g_lconst hC 0 6 dX6_size_5 rfl (by decide +kernel) ?_
  refine g_lcmp_le hC 22 10 dX6_size_6 dX6_size_7 rfl rfl ?_ ?_
  · refine g_iload_n hC 1 23 rfl dX6_size_22 rfl rfl ?_
    exact g_ireturn hC hr hk dX6_size_23
  · refine g_iinc hC 1 13 [(2, .int (fI (a2 + 1))), (0, .long (fL a0)), (3, .long (fL a3))] rfl dX6_size_10 (by decide) rfl rfl ?_
    refine g_lload_n hC 2 14 rfl dX6_size_13 rfl rfl ?_
    refine g_ldc2 hC 32 17 gw_610 dX6_size_14 rfl ?_
    refine g_ldiv hC 18 dX6_size_17 rfl (fun x1 => ?_)
    refine g_lstore_n hC 19 [(3, .long (fL x1)), (2, .int (fI (a2 + 1))), (0, .long (fL a0))] dX6_size_18 rfl (by decide) rfl rfl ?_
    refine g_goto hC 4 dX6_size_19 rfl ?_
    refine g_lv [2, 1, 0] rfl ?_
    exact hrc _ _ _
set_option maxRecDepth 100000 in
set_option maxHeartbeats 4000000 in
theorem wk_X6_size_L4 {l : Launch} {p : Program} {e : Env} {s : State} {m : MethodId} {args : Array Value} {below : List Frame} {meth : Method} {c : Code} {D : va_G} {aC : Nat → ClassId} {ad : Nat → Nat} (hC : fCx p s m args c vwCl D aC TB ad (fFr ad TB) goodTs cX6_size RX6 5) (hr : meth.sig.returnType = some .int) (hk : meth.locks = false) (a0 : Int) (n : Nat) : ∀ (a2 a3 : Int) (M : fMem), GM l p e s m args below meth c D aC ad 5 0 0 0 4 [(0, .long (fL a0)), (2, .int (fI a2)), (3, .long (fL a3))] [] M (dn_X6_size_L4 a0 n a2 a3 M) := by
  induction n with
  | zero => intro a2 a3 M; exact g_none
  | succ n ih => intro a2 a3 M; exact wk_X6_size_L4B hC hr hk a0 (fun a2 a3 M => dn_X6_size_L4 a0 n a2 a3 M) ih a2 a3 M
def dn_X6_size (a0 : Int) (M : fMem) : fOp :=
  dn_X6_size_L4 a0 600 0 a0 M
set_option maxRecDepth 100000 in
set_option maxHeartbeats 4000000 in
theorem wk_X6_size {l : Launch} {p : Program} {e : Env} {s : State} {m : MethodId} {args : Array Value} {below : List Frame} {meth : Method} {c : Code} {D : va_G} {aC : Nat → ClassId} {ad : Nat → Nat} (hC : fCx p s m args c vwCl D aC TB ad (fFr ad TB) goodTs cX6_size RX6 5) (hr : meth.sig.returnType = some .int) (hk : meth.locks = false) (a0 : Int) (M : fMem) : GM l p e s m args below meth c D aC ad 5 0 0 0 0 [(0, .long (fL a0))] [] M (dn_X6_size a0 M) := by
  unfold dn_X6_size
  refine g_iconst hC 1 dX6_size_0 rfl ?_
  refine g_istore_n hC 2 [(2, .int (fI 0)), (0, .long (fL a0))] dX6_size_1 rfl (by decide) rfl rfl ?_
  refine g_lload_n hC 1 3 rfl dX6_size_2 rfl rfl ?_
  refine g_lstore_n hC 4 [(3, .long (fL a0)), (2, .int (fI 0)), (0, .long (fL a0))] dX6_size_3 rfl (by decide) rfl rfl ?_
  refine g_lv [2, 1, 0] rfl ?_
  refine wk_X6_size_L4 hC hr hk _ 600 _ _ _
theorem cn_X6_size (l : Launch) (a0 : Int) (M : fMem) : fMt l vwCl TB yX6_size cX6_size 5 (some .int) 0 0 0 (fun ad => [.long (fL a0)]) M (dn_X6_size a0 M) :=
  fMt.of (by decide +kernel) (fun _ => Nat.le_of_ble_eq_true rfl) (fun p e s m args below meth c D aC ad hC hr hk => wk_X6_size hC hr hk a0 M)
def dn_X6_lineOf (a0 : Int) (a2 : Int) (M : fMem) : fOp :=
  fCl (dn_X6_size a0 M) (fun v1 M2 => fSh a0 (5 * ((v1 - 1) - a2)) (fun x3 => fA31 x3 (fun x4 => some (x4, M2))))
set_option maxRecDepth 100000 in
set_option maxHeartbeats 4000000 in
theorem wk_X6_lineOf {l : Launch} {p : Program} {e : Env} {s : State} {m : MethodId} {args : Array Value} {below : List Frame} {meth : Method} {c : Code} {D : va_G} {aC : Nat → ClassId} {ad : Nat → Nat} (hC : fCx p s m args c vwCl D aC TB ad (fFr ad TB) goodTs cX6_lineOf RX6 3) (hr : meth.sig.returnType = some .int) (hk : meth.locks = false) (a0 : Int) (a2 : Int) (M : fMem) : GM l p e s m args below meth c D aC ad 3 1 24 0 0 [(0, .long (fL a0)), (2, .int (fI a2))] [] M (dn_X6_lineOf a0 a2 M) := by
  unfold dn_X6_lineOf
  refine g_lload_n hC 0 1 rfl dX6_lineOf_0 rfl rfl ?_
  refine g_iconst hC 2 dX6_lineOf_1 rfl ?_
  refine g_lload_n hC 0 3 rfl dX6_lineOf_2 rfl rfl ?_
  refine g_cS hC 6 1 [.long (fL a0)] [.int (fI 5), .long (fL a0)] (cn_X6_size l a0 _) rfl rfl gw_607 gw_609 gw_65 gw_608 (by decide +kernel) rfl ⟨Nat.le_of_ble_eq_true rfl, Nat.le_of_ble_eq_true rfl⟩ (Nat.le_of_ble_eq_true rfl) ⟨Nat.zero_le _, Nat.zero_le _⟩ dX6_lineOf_3 rfl (fun v1 => .int (fI v1) :: [.int (fI 5), .long (fL a0)]) (fun _ => rfl) (fun v1 M2 => ?_)
  refine g_iconst hC 7 dX6_lineOf_6 rfl ?_
  refine g_isub hC 8 dX6_lineOf_7 rfl ?_
  refine g_iload_n hC 1 9 rfl dX6_lineOf_8 rfl rfl ?_
  refine g_isub hC 10 dX6_lineOf_9 rfl ?_
  refine g_imul hC 11 dX6_lineOf_10 rfl ?_
  refine g_lshr hC 12 dX6_lineOf_11 rfl (fun x3 => ?_)
  refine g_ldc2 hC 31 15 gw_614 dX6_lineOf_12 rfl ?_
  refine g_land31 hC 16 dX6_lineOf_15 rfl (fun x4 => ?_)
  refine g_l2i hC 17 dX6_lineOf_16 rfl ?_
  exact g_ireturn hC hr hk dX6_lineOf_17
theorem cn_X6_lineOf (l : Launch) (a0 : Int) (a2 : Int) (M : fMem) : fMt l vwCl TB yX6_lineOf cX6_lineOf 3 (some .int) 1 24 0 (fun ad => [.long (fL a0), .int (fI a2)]) M (dn_X6_lineOf a0 a2 M) :=
  fMt.of (by decide +kernel) (fun _ => Nat.le_of_ble_eq_true rfl) (fun p e s m args below meth c D aC ad hC hr hk => wk_X6_lineOf hC hr hk a0 a2 M)
def dn_X6_noText_J57  (r : Int → Int → fMem → fOp) (a0 a2 a3 as0 : Int) (M : fMem) : fOp :=
  r as0 (a3 + 1) M
set_option maxRecDepth 100000 in
set_option maxHeartbeats 4000000 in
theorem wk_X6_noText_J57 {l : Launch} {p : Program} {e : Env} {s : State} {m : MethodId} {args : Array Value} {below : List Frame} {meth : Method} {c : Code} {D : va_G} {aC : Nat → ClassId} {ad : Nat → Nat} (hC : fCx p s m args c vwCl D aC TB ad (fFr ad TB) goodTs cX6_noText RX6 4) (hr : meth.sig.returnType = some .boolean) (hk : meth.locks = false) (a0 a2 a3 as0 : Int)  (r : Int → Int → fMem → fOp) (hrc : ∀ (z2 z3 : Int) (M : fMem), GM l p e s m args below meth c D aC ad 4 2 46 0 21 [(0, .long (fL a0)), (2, .int (fI z2)), (3, .int (fI z3))] [] M (r z2 z3 M)) (M : fMem) : GM l p e s m args below meth c D aC ad 4 2 46 0 57 [(0, .long (fL a0)), (2, .int (fI a2)), (3, .int (fI a3))] [.int (fI as0)] M (dn_X6_noText_J57 r a0 a2 a3 as0 M) := by
  unfold dn_X6_noText_J57
  refine g_istore_n hC 58 [(2, .int (fI as0)), (0, .long (fL a0)), (3, .int (fI a3))] dX6_noText_57 rfl (by decide) rfl rfl ?_
  refine g_iinc hC 2 61 [(3, .int (fI (a3 + 1))), (2, .int (fI as0)), (0, .long (fL a0))] rfl dX6_noText_58 (by decide) rfl rfl ?_
  refine g_goto hC 21 dX6_noText_61 rfl ?_
  refine g_lv [2, 1, 0] rfl ?_
  exact hrc _ _ _
def dn_X6_noText_J52  (r : Int → Int → fMem → fOp) (a0 a2 a3 : Int) (M : fMem) : fOp :=
  dn_X6_noText_J57 r a0 a2 a3 1 M
set_option maxRecDepth 100000 in
set_option maxHeartbeats 4000000 in
theorem wk_X6_noText_J52 {l : Launch} {p : Program} {e : Env} {s : State} {m : MethodId} {args : Array Value} {below : List Frame} {meth : Method} {c : Code} {D : va_G} {aC : Nat → ClassId} {ad : Nat → Nat} (hC : fCx p s m args c vwCl D aC TB ad (fFr ad TB) goodTs cX6_noText RX6 4) (hr : meth.sig.returnType = some .boolean) (hk : meth.locks = false) (a0 a2 a3 : Int)  (r : Int → Int → fMem → fOp) (hrc : ∀ (z2 z3 : Int) (M : fMem), GM l p e s m args below meth c D aC ad 4 2 46 0 21 [(0, .long (fL a0)), (2, .int (fI z2)), (3, .int (fI z3))] [] M (r z2 z3 M)) (M : fMem) : GM l p e s m args below meth c D aC ad 4 2 46 0 52 [(0, .long (fL a0)), (2, .int (fI a2)), (3, .int (fI a3))] [] M (dn_X6_noText_J52 r a0 a2 a3 M) := by
  unfold dn_X6_noText_J52
  refine g_iconst hC 53 dX6_noText_52 rfl ?_
  refine g_goto hC 57 dX6_noText_53 rfl ?_
  exact wk_X6_noText_J57 hC hr hk _ _ _ _ _ hrc _
def dn_X6_noText_L21B  (a0 : Int) (r : Int → Int → fMem → fOp) (a2 a3 : Int) (M : fMem) : fOp :=
  fCl (dn_X6_size a0 M) (fun v3 M4 => fLe v3 a3 (fRz a2 M4) (fEq a2 0 (fCl (dn_X6_lineOf a0 a3 M4) (fun v5 M6 => fLt v5 1 (dn_X6_noText_J52 r a0 a2 a3 M6) (fCl (dn_X6_lineOf a0 a3 M6) (fun v7 M8 => fLe v7 19 (dn_X6_noText_J57 r a0 a2 a3 0 M8) (dn_X6_noText_J52 r a0 a2 a3 M8))))) (dn_X6_noText_J52 r a0 a2 a3 M4)))
def dn_X6_noText_L21  (a0 : Int) : Nat → Int → Int → fMem → fOp
  | 0, _, _, _ => none
  | n + 1, a2, a3, M => dn_X6_noText_L21B a0 (fun a2 a3 M => dn_X6_noText_L21 a0 n a2 a3 M) a2 a3 M
set_option maxRecDepth 100000 in
set_option maxHeartbeats 4000000 in
theorem wk_X6_noText_L21B {l : Launch} {p : Program} {e : Env} {s : State} {m : MethodId} {args : Array Value} {below : List Frame} {meth : Method} {c : Code} {D : va_G} {aC : Nat → ClassId} {ad : Nat → Nat} (hC : fCx p s m args c vwCl D aC TB ad (fFr ad TB) goodTs cX6_noText RX6 4) (hr : meth.sig.returnType = some .boolean) (hk : meth.locks = false) (a0 : Int) (r : Int → Int → fMem → fOp) (hrc : ∀ (a2 a3 : Int) (M : fMem), GM l p e s m args below meth c D aC ad 4 2 46 0 21 [(0, .long (fL a0)), (2, .int (fI a2)), (3, .int (fI a3))] [] M (r a2 a3 M)) (a2 a3 : Int) (M : fMem) : GM l p e s m args below meth c D aC ad 4 2 46 0 21 [(0, .long (fL a0)), (2, .int (fI a2)), (3, .int (fI a3))] [] M (dn_X6_noText_L21B a0 r a2 a3 M) := by
  unfold dn_X6_noText_L21B
  refine g_iload_n hC 2 22 rfl dX6_noText_21 rfl rfl ?_
  refine g_lload_n hC 0 23 rfl dX6_noText_22 rfl rfl ?_
  refine g_cS hC 26 1 [.long (fL a0)] [.int (fI a3)] (cn_X6_size l a0 _) rfl rfl gw_607 gw_609 gw_65 gw_608 (by decide +kernel) rfl ⟨Nat.le_of_ble_eq_true rfl, Nat.le_of_ble_eq_true rfl⟩ (Nat.le_of_ble_eq_true rfl) ⟨Nat.zero_le _, Nat.zero_le _⟩ dX6_noText_23 rfl (fun v3 => .int (fI v3) :: [.int (fI a3)]) (fun _ => rfl) (fun v3 M4 => ?_)
  refine g_icmp_ge hC 64 29 dX6_noText_26 rfl rfl ?_ ?_
  · refine g_iload_n hC 1 65 rfl dX6_noText_64 rfl rfl ?_
    exact g_zreturn hC hr hk dX6_noText_65
  · refine g_iload_n hC 1 30 rfl dX6_noText_29 rfl rfl ?_
    refine g_if_ne hC 52 33 dX6_noText_30 rfl rfl ?_ ?_
    · exact wk_X6_noText_J52 hC hr hk _ _ _ _ hrc _
    · refine g_lload_n hC 0 34 rfl dX6_noText_33 rfl rfl ?_
      refine g_iload_n hC 2 35 rfl dX6_noText_34 rfl rfl ?_
      refine g_cS hC 38 2 [.long (fL a0), .int (fI a3)] [] (cn_X6_lineOf l a0 a3 _) rfl rfl gw_611 gw_613 gw_65 gw_612 (by decide +kernel) rfl ⟨Nat.le_of_ble_eq_true rfl, Nat.le_of_ble_eq_true rfl⟩ (Nat.le_of_ble_eq_true rfl) ⟨Nat.zero_le _, Nat.zero_le _⟩ dX6_noText_35 rfl (fun v5 => .int (fI v5) :: []) (fun _ => rfl) (fun v5 M6 => ?_)
      refine g_iconst hC 39 dX6_noText_38 rfl ?_
      refine g_icmp_lt hC 52 42 dX6_noText_39 rfl rfl ?_ ?_
      · exact wk_X6_noText_J52 hC hr hk _ _ _ _ hrc _
      · refine g_lload_n hC 0 43 rfl dX6_noText_42 rfl rfl ?_
        refine g_iload_n hC 2 44 rfl dX6_noText_43 rfl rfl ?_
        refine g_cS hC 47 2 [.long (fL a0), .int (fI a3)] [] (cn_X6_lineOf l a0 a3 _) rfl rfl gw_611 gw_613 gw_65 gw_612 (by decide +kernel) rfl ⟨Nat.le_of_ble_eq_true rfl, Nat.le_of_ble_eq_true rfl⟩ (Nat.le_of_ble_eq_true rfl) ⟨Nat.zero_le _, Nat.zero_le _⟩ dX6_noText_44 rfl (fun v7 => .int (fI v7) :: []) (fun _ => rfl) (fun v7 M8 => ?_)
        refine g_bipush hC 49 dX6_noText_47 rfl (by decide +kernel) ?_
        refine g_icmp_le hC 56 52 dX6_noText_49 rfl rfl ?_ ?_
        · refine g_iconst hC 57 dX6_noText_56 rfl ?_
          exact wk_X6_noText_J57 hC hr hk _ _ _ _ _ hrc _
        · exact wk_X6_noText_J52 hC hr hk _ _ _ _ hrc _
set_option maxRecDepth 100000 in
set_option maxHeartbeats 4000000 in
theorem wk_X6_noText_L21 {l : Launch} {p : Program} {e : Env} {s : State} {m : MethodId} {args : Array Value} {below : List Frame} {meth : Method} {c : Code} {D : va_G} {aC : Nat → ClassId} {ad : Nat → Nat} (hC : fCx p s m args c vwCl D aC TB ad (fFr ad TB) goodTs cX6_noText RX6 4) (hr : meth.sig.returnType = some .boolean) (hk : meth.locks = false) (a0 : Int) (n : Nat) : ∀ (a2 a3 : Int) (M : fMem), GM l p e s m args below meth c D aC ad 4 2 46 0 21 [(0, .long (fL a0)), (2, .int (fI a2)), (3, .int (fI a3))] [] M (dn_X6_noText_L21 a0 n a2 a3 M) := by
  induction n with
  | zero => intro a2 a3 M; exact g_none
  | succ n ih => intro a2 a3 M; exact wk_X6_noText_L21B hC hr hk a0 (fun a2 a3 M => dn_X6_noText_L21 a0 n a2 a3 M) ih a2 a3 M
def dn_X6_noText (a0 : Int) (M : fMem) : fOp :=
  fLtL a0 0 (fRz 1 M) (fCl (dn_X6_size a0 M) (fun v1 M2 => fLe v1 12 (dn_X6_noText_L21 a0 600 0 0 M2) (fRz 1 M2)))
set_option maxRecDepth 100000 in
set_option maxHeartbeats 4000000 in
theorem wk_X6_noText {l : Launch} {p : Program} {e : Env} {s : State} {m : MethodId} {args : Array Value} {below : List Frame} {meth : Method} {c : Code} {D : va_G} {aC : Nat → ClassId} {ad : Nat → Nat} (hC : fCx p s m args c vwCl D aC TB ad (fFr ad TB) goodTs cX6_noText RX6 4) (hr : meth.sig.returnType = some .boolean) (hk : meth.locks = false) (a0 : Int) (M : fMem) : GM l p e s m args below meth c D aC ad 4 2 46 0 0 [(0, .long (fL a0))] [] M (dn_X6_noText a0 M) := by
  unfold dn_X6_noText
  refine g_lload_n hC 0 1 rfl dX6_noText_0 rfl rfl ?_
  refine g_lconst hC 0 2 dX6_noText_1 rfl (by decide +kernel) ?_
  refine g_lcmp_lt hC 15 6 dX6_noText_2 dX6_noText_3 rfl rfl ?_ ?_
  · refine g_iconst hC 16 dX6_noText_15 rfl ?_
    exact g_zreturn hC hr hk dX6_noText_16
  · refine g_lload_n hC 0 7 rfl dX6_noText_6 rfl rfl ?_
    refine g_cS hC 10 1 [.long (fL a0)] [] (cn_X6_size l a0 _) rfl rfl gw_607 gw_609 gw_65 gw_608 (by decide +kernel) rfl ⟨Nat.le_of_ble_eq_true rfl, Nat.le_of_ble_eq_true rfl⟩ (Nat.le_of_ble_eq_true rfl) ⟨Nat.zero_le _, Nat.zero_le _⟩ dX6_noText_7 rfl (fun v1 => .int (fI v1) :: []) (fun _ => rfl) (fun v1 M2 => ?_)
    refine g_bipush hC 12 dX6_noText_10 rfl (by decide +kernel) ?_
    refine g_icmp_le hC 17 15 dX6_noText_12 rfl rfl ?_ ?_
    · refine g_iconst hC 18 dX6_noText_17 rfl ?_
      refine g_istore_n hC 19 [(2, .int (fI 0)), (0, .long (fL a0))] dX6_noText_18 rfl (by decide) rfl rfl ?_
      refine g_iconst hC 20 dX6_noText_19 rfl ?_
      refine g_istore_n hC 21 [(3, .int (fI 0)), (2, .int (fI 0)), (0, .long (fL a0))] dX6_noText_20 rfl (by decide) rfl rfl ?_
      refine g_lv [2, 1, 0] rfl ?_
      refine wk_X6_noText_L21 hC hr hk _ 600 _ _ _
    · refine g_iconst hC 16 dX6_noText_15 rfl ?_
      exact g_zreturn hC hr hk dX6_noText_16
theorem cn_X6_noText (l : Launch) (a0 : Int) (M : fMem) : fMt l vwCl TB yX6_noText cX6_noText 4 (some .boolean) 2 46 0 (fun ad => [.long (fL a0)]) M (dn_X6_noText a0 M) :=
  fMt.of (by decide +kernel) (fun _ => Nat.le_of_ble_eq_true rfl) (fun p e s m args below meth c D aC ad hC hr hk => wk_X6_noText hC hr hk a0 M)
def dn_X6_hasMarks_J31  (r : Int → Int → fMem → fOp) (a0 a2 a3 as0 : Int) (M : fMem) : fOp :=
  r as0 (a3 + 1) M
set_option maxRecDepth 100000 in
set_option maxHeartbeats 4000000 in
theorem wk_X6_hasMarks_J31 {l : Launch} {p : Program} {e : Env} {s : State} {m : MethodId} {args : Array Value} {below : List Frame} {meth : Method} {c : Code} {D : va_G} {aC : Nat → ClassId} {ad : Nat → Nat} (hC : fCx p s m args c vwCl D aC TB ad (fFr ad TB) goodTs cX6_hasMarks RX6 4) (hr : meth.sig.returnType = some .boolean) (hk : meth.locks = false) (a0 a2 a3 as0 : Int)  (r : Int → Int → fMem → fOp) (hrc : ∀ (z2 z3 : Int) (M : fMem), GM l p e s m args below meth c D aC ad 4 2 46 0 4 [(0, .long (fL a0)), (2, .int (fI z2)), (3, .int (fI z3))] [] M (r z2 z3 M)) (M : fMem) : GM l p e s m args below meth c D aC ad 4 2 46 0 31 [(0, .long (fL a0)), (2, .int (fI a2)), (3, .int (fI a3))] [.int (fI as0)] M (dn_X6_hasMarks_J31 r a0 a2 a3 as0 M) := by
  unfold dn_X6_hasMarks_J31
  refine g_istore_n hC 32 [(2, .int (fI as0)), (0, .long (fL a0)), (3, .int (fI a3))] dX6_hasMarks_31 rfl (by decide) rfl rfl ?_
  refine g_iinc hC 2 35 [(3, .int (fI (a3 + 1))), (2, .int (fI as0)), (0, .long (fL a0))] rfl dX6_hasMarks_32 (by decide) rfl rfl ?_
  refine g_goto hC 4 dX6_hasMarks_35 rfl ?_
  refine g_lv [2, 1, 0] rfl ?_
  exact hrc _ _ _
def dn_X6_hasMarks_J26  (r : Int → Int → fMem → fOp) (a0 a2 a3 : Int) (M : fMem) : fOp :=
  dn_X6_hasMarks_J31 r a0 a2 a3 1 M
set_option maxRecDepth 100000 in
set_option maxHeartbeats 4000000 in
theorem wk_X6_hasMarks_J26 {l : Launch} {p : Program} {e : Env} {s : State} {m : MethodId} {args : Array Value} {below : List Frame} {meth : Method} {c : Code} {D : va_G} {aC : Nat → ClassId} {ad : Nat → Nat} (hC : fCx p s m args c vwCl D aC TB ad (fFr ad TB) goodTs cX6_hasMarks RX6 4) (hr : meth.sig.returnType = some .boolean) (hk : meth.locks = false) (a0 a2 a3 : Int)  (r : Int → Int → fMem → fOp) (hrc : ∀ (z2 z3 : Int) (M : fMem), GM l p e s m args below meth c D aC ad 4 2 46 0 4 [(0, .long (fL a0)), (2, .int (fI z2)), (3, .int (fI z3))] [] M (r z2 z3 M)) (M : fMem) : GM l p e s m args below meth c D aC ad 4 2 46 0 26 [(0, .long (fL a0)), (2, .int (fI a2)), (3, .int (fI a3))] [] M (dn_X6_hasMarks_J26 r a0 a2 a3 M) := by
  unfold dn_X6_hasMarks_J26
  refine g_iconst hC 27 dX6_hasMarks_26 rfl ?_
  refine g_goto hC 31 dX6_hasMarks_27 rfl ?_
  exact wk_X6_hasMarks_J31 hC hr hk _ _ _ _ _ hrc _
def dn_X6_hasMarks_L4B  (a0 : Int) (r : Int → Int → fMem → fOp) (a2 a3 : Int) (M : fMem) : fOp :=
  fCl (dn_X6_size a0 M) (fun v1 M2 => fLe v1 a3 (fRz a2 M2) (fEq a2 0 (fCl (dn_X6_lineOf a0 a3 M2) (fun v3 M4 => fLe v3 16 (dn_X6_hasMarks_J31 r a0 a2 a3 0 M4) (dn_X6_hasMarks_J26 r a0 a2 a3 M4))) (dn_X6_hasMarks_J26 r a0 a2 a3 M2)))
def dn_X6_hasMarks_L4  (a0 : Int) : Nat → Int → Int → fMem → fOp
  | 0, _, _, _ => none
  | n + 1, a2, a3, M => dn_X6_hasMarks_L4B a0 (fun a2 a3 M => dn_X6_hasMarks_L4 a0 n a2 a3 M) a2 a3 M
set_option maxRecDepth 100000 in
set_option maxHeartbeats 4000000 in
theorem wk_X6_hasMarks_L4B {l : Launch} {p : Program} {e : Env} {s : State} {m : MethodId} {args : Array Value} {below : List Frame} {meth : Method} {c : Code} {D : va_G} {aC : Nat → ClassId} {ad : Nat → Nat} (hC : fCx p s m args c vwCl D aC TB ad (fFr ad TB) goodTs cX6_hasMarks RX6 4) (hr : meth.sig.returnType = some .boolean) (hk : meth.locks = false) (a0 : Int) (r : Int → Int → fMem → fOp) (hrc : ∀ (a2 a3 : Int) (M : fMem), GM l p e s m args below meth c D aC ad 4 2 46 0 4 [(0, .long (fL a0)), (2, .int (fI a2)), (3, .int (fI a3))] [] M (r a2 a3 M)) (a2 a3 : Int) (M : fMem) : GM l p e s m args below meth c D aC ad 4 2 46 0 4 [(0, .long (fL a0)), (2, .int (fI a2)), (3, .int (fI a3))] [] M (dn_X6_hasMarks_L4B a0 r a2 a3 M) := by
  unfold dn_X6_hasMarks_L4B
  refine g_iload_n hC 2 5 rfl dX6_hasMarks_4 rfl rfl ?_
  refine g_lload_n hC 0 6 rfl dX6_hasMarks_5 rfl rfl ?_
  refine g_cS hC 9 1 [.long (fL a0)] [.int (fI a3)] (cn_X6_size l a0 _) rfl rfl gw_607 gw_609 gw_65 gw_608 (by decide +kernel) rfl ⟨Nat.le_of_ble_eq_true rfl, Nat.le_of_ble_eq_true rfl⟩ (Nat.le_of_ble_eq_true rfl) ⟨Nat.zero_le _, Nat.zero_le _⟩ dX6_hasMarks_6 rfl (fun v1 => .int (fI v1) :: [.int (fI a3)]) (fun _ => rfl) (fun v1 M2 => ?_)
  refine g_icmp_ge hC 38 12 dX6_hasMarks_9 rfl rfl ?_ ?_
  · refine g_iload_n hC 1 39 rfl dX6_hasMarks_38 rfl rfl ?_
    exact g_zreturn hC hr hk dX6_hasMarks_39
  · refine g_iload_n hC 1 13 rfl dX6_hasMarks_12 rfl rfl ?_
    refine g_if_ne hC 26 16 dX6_hasMarks_13 rfl rfl ?_ ?_
    · exact wk_X6_hasMarks_J26 hC hr hk _ _ _ _ hrc _
    · refine g_lload_n hC 0 17 rfl dX6_hasMarks_16 rfl rfl ?_
      refine g_iload_n hC 2 18 rfl dX6_hasMarks_17 rfl rfl ?_
      refine g_cS hC 21 2 [.long (fL a0), .int (fI a3)] [] (cn_X6_lineOf l a0 a3 _) rfl rfl gw_611 gw_613 gw_65 gw_612 (by decide +kernel) rfl ⟨Nat.le_of_ble_eq_true rfl, Nat.le_of_ble_eq_true rfl⟩ (Nat.le_of_ble_eq_true rfl) ⟨Nat.zero_le _, Nat.zero_le _⟩ dX6_hasMarks_18 rfl (fun v3 => .int (fI v3) :: []) (fun _ => rfl) (fun v3 M4 => ?_)
      refine g_bipush hC 23 dX6_hasMarks_21 rfl (by decide +kernel) ?_
      refine g_icmp_le hC 30 26 dX6_hasMarks_23 rfl rfl ?_ ?_
      · refine g_iconst hC 31 dX6_hasMarks_30 rfl ?_
        exact wk_X6_hasMarks_J31 hC hr hk _ _ _ _ _ hrc _
      · exact wk_X6_hasMarks_J26 hC hr hk _ _ _ _ hrc _
set_option maxRecDepth 100000 in
set_option maxHeartbeats 4000000 in
theorem wk_X6_hasMarks_L4 {l : Launch} {p : Program} {e : Env} {s : State} {m : MethodId} {args : Array Value} {below : List Frame} {meth : Method} {c : Code} {D : va_G} {aC : Nat → ClassId} {ad : Nat → Nat} (hC : fCx p s m args c vwCl D aC TB ad (fFr ad TB) goodTs cX6_hasMarks RX6 4) (hr : meth.sig.returnType = some .boolean) (hk : meth.locks = false) (a0 : Int) (n : Nat) : ∀ (a2 a3 : Int) (M : fMem), GM l p e s m args below meth c D aC ad 4 2 46 0 4 [(0, .long (fL a0)), (2, .int (fI a2)), (3, .int (fI a3))] [] M (dn_X6_hasMarks_L4 a0 n a2 a3 M) := by
  induction n with
  | zero => intro a2 a3 M; exact g_none
  | succ n ih => intro a2 a3 M; exact wk_X6_hasMarks_L4B hC hr hk a0 (fun a2 a3 M => dn_X6_hasMarks_L4 a0 n a2 a3 M) ih a2 a3 M
def dn_X6_hasMarks (a0 : Int) (M : fMem) : fOp :=
  dn_X6_hasMarks_L4 a0 600 0 0 M
set_option maxRecDepth 100000 in
set_option maxHeartbeats 4000000 in
theorem wk_X6_hasMarks {l : Launch} {p : Program} {e : Env} {s : State} {m : MethodId} {args : Array Value} {below : List Frame} {meth : Method} {c : Code} {D : va_G} {aC : Nat → ClassId} {ad : Nat → Nat} (hC : fCx p s m args c vwCl D aC TB ad (fFr ad TB) goodTs cX6_hasMarks RX6 4) (hr : meth.sig.returnType = some .boolean) (hk : meth.locks = false) (a0 : Int) (M : fMem) : GM l p e s m args below meth c D aC ad 4 2 46 0 0 [(0, .long (fL a0))] [] M (dn_X6_hasMarks a0 M) := by
  unfold dn_X6_hasMarks
  refine g_iconst hC 1 dX6_hasMarks_0 rfl ?_
  refine g_istore_n hC 2 [(2, .int (fI 0)), (0, .long (fL a0))] dX6_hasMarks_1 rfl (by decide) rfl rfl ?_
  refine g_iconst hC 3 dX6_hasMarks_2 rfl ?_
  refine g_istore_n hC 4 [(3, .int (fI 0)), (2, .int (fI 0)), (0, .long (fL a0))] dX6_hasMarks_3 rfl (by decide) rfl rfl ?_
  refine g_lv [2, 1, 0] rfl ?_
  refine wk_X6_hasMarks_L4 hC hr hk _ 600 _ _ _
theorem cn_X6_hasMarks (l : Launch) (a0 : Int) (M : fMem) : fMt l vwCl TB yX6_hasMarks cX6_hasMarks 4 (some .boolean) 2 46 0 (fun ad => [.long (fL a0)]) M (dn_X6_hasMarks a0 M) :=
  fMt.of (by decide +kernel) (fun _ => Nat.le_of_ble_eq_true rfl) (fun p e s m args below meth c D aC ad hC hr hk => wk_X6_hasMarks hC hr hk a0 M)
def dn_X6_add (a1 : Int) (a2 : Int) (a3 : Int) (M : fMem) : fOp :=
  fCl (dn_X6_noPair a1 a2 M) (fun v1 M2 => fEq v1 0 (fRd M2 128 12 ((4 * a1) + a2) (fun x3 => fEq x3 (-1) (fCl (dn_X6_noText a3 M2) (fun v4 M5 => fEq v4 0 (fCl (dn_X6_hasMarks a3 M5) (fun v6 M7 => fEq v6 0 (fWr M7 128 12 ((4 * a1) + a2) (-2) (fun M8 => fWz M8 129 12 ((4 * a1) + a2) 0 (fun M9 => fWr M9 130 12 ((4 * a1) + a2) a3 (fun M10 => fRz 1 M10)))) (fRz 0 M7))) (fRz 0 M5))) (fRz 0 M2))) (fRz 0 M2))
set_option maxRecDepth 100000 in
set_option maxHeartbeats 4000000 in
theorem wk_X6_add {l : Launch} {p : Program} {e : Env} {s : State} {m : MethodId} {args : Array Value} {below : List Frame} {meth : Method} {c : Code} {D : va_G} {aC : Nat → ClassId} {ad : Nat → Nat} (hC : fCx p s m args c vwCl D aC TB ad (fFr ad TB) goodTs cX6_add RX6 5) (hr : meth.sig.returnType = some .boolean) (hk : meth.locks = false) (a1 : Int) (a2 : Int) (a3 : Int) (M : fMem) : GM l p e s m args below meth c D aC ad 5 3 69 0 0 [(0, .ref (ad 115)), (1, .int (fI a1)), (2, .int (fI a2)), (3, .long (fL a3))] [] M (dn_X6_add a1 a2 a3 M) := by
  unfold dn_X6_add
  refine g_iload_n hC 1 1 rfl dX6_add_0 rfl rfl ?_
  refine g_iload_n hC 2 2 rfl dX6_add_1 rfl rfl ?_
  refine g_cS hC 5 2 [.int (fI a1), .int (fI a2)] [] (cn_X6_noPair l a1 a2 _) rfl rfl gw_598 gw_600 gw_65 gw_599 (by decide +kernel) rfl ⟨Nat.le_of_ble_eq_true rfl, Nat.le_of_ble_eq_true rfl⟩ (Nat.le_of_ble_eq_true rfl) ⟨Nat.zero_le _, Nat.zero_le _⟩ dX6_add_2 rfl (fun v1 => .int (fI v1) :: []) (fun _ => rfl) (fun v1 M2 => ?_)
  refine g_if_ne hC 36 8 dX6_add_5 rfl rfl ?_ ?_
  · refine g_iconst hC 37 dX6_add_36 rfl ?_
    exact g_zreturn hC hr hk dX6_add_37
  · refine g_aload_n hC 0 9 rfl dX6_add_8 rfl rfl ?_
    refine g_getA hC 12 inX6 rfl 12 (by decide) gw_539 rfl tb_MD rfl dX6_add_9 rfl ?_
    refine g_iconst hC 13 dX6_add_12 rfl ?_
    refine g_iload_n hC 1 14 rfl dX6_add_13 rfl rfl ?_
    refine g_imul hC 15 dX6_add_14 rfl ?_
    refine g_iload_n hC 2 16 rfl dX6_add_15 rfl rfl ?_
    refine g_iadd hC 17 dX6_add_16 rfl ?_
    refine g_iald hC 18 tb_MD_13 (by decide) dX6_add_17 rfl (fun x3 => ?_)
    refine g_iconst hC 19 dX6_add_18 rfl ?_
    refine g_icmp_ne hC 36 22 dX6_add_19 rfl rfl ?_ ?_
    · refine g_iconst hC 37 dX6_add_36 rfl ?_
      exact g_zreturn hC hr hk dX6_add_37
    · refine g_lload_n hC 3 23 rfl dX6_add_22 rfl rfl ?_
      refine g_cS hC 26 1 [.long (fL a3)] [] (cn_X6_noText l a3 _) rfl rfl gw_604 gw_606 gw_65 gw_605 (by decide +kernel) rfl ⟨Nat.le_of_ble_eq_true rfl, Nat.le_of_ble_eq_true rfl⟩ (Nat.le_of_ble_eq_true rfl) ⟨Nat.zero_le _, Nat.zero_le _⟩ dX6_add_23 rfl (fun v4 => .int (fI v4) :: []) (fun _ => rfl) (fun v4 M5 => ?_)
      refine g_if_ne hC 36 29 dX6_add_26 rfl rfl ?_ ?_
      · refine g_iconst hC 37 dX6_add_36 rfl ?_
        exact g_zreturn hC hr hk dX6_add_37
      · refine g_lload_n hC 3 30 rfl dX6_add_29 rfl rfl ?_
        refine g_cS hC 33 1 [.long (fL a3)] [] (cn_X6_hasMarks l a3 _) rfl rfl gw_615 gw_617 gw_65 gw_616 (by decide +kernel) rfl ⟨Nat.le_of_ble_eq_true rfl, Nat.le_of_ble_eq_true rfl⟩ (Nat.le_of_ble_eq_true rfl) ⟨Nat.zero_le _, Nat.zero_le _⟩ dX6_add_30 rfl (fun v6 => .int (fI v6) :: []) (fun _ => rfl) (fun v6 M7 => ?_)
        refine g_if_eq hC 38 36 dX6_add_33 rfl rfl ?_ ?_
        · refine g_aload_n hC 0 39 rfl dX6_add_38 rfl rfl ?_
          refine g_getA hC 42 inX6 rfl 12 (by decide) gw_539 rfl tb_MD rfl dX6_add_39 rfl ?_
          refine g_iconst hC 43 dX6_add_42 rfl ?_
          refine g_iload_n hC 1 44 rfl dX6_add_43 rfl rfl ?_
          refine g_imul hC 45 dX6_add_44 rfl ?_
          refine g_iload_n hC 2 46 rfl dX6_add_45 rfl rfl ?_
          refine g_iadd hC 47 dX6_add_46 rfl ?_
          refine g_bipush hC 49 dX6_add_47 rfl (by decide +kernel) ?_
          refine g_iast hC 50 tb_MD_13 (by decide) dX6_add_49 rfl (fun M8 => ?_)
          refine g_aload_n hC 0 51 rfl dX6_add_50 rfl rfl ?_
          refine g_getA hC 54 inX6 rfl 13 (by decide) gw_540 rfl tb_MD rfl dX6_add_51 rfl ?_
          refine g_iconst hC 55 dX6_add_54 rfl ?_
          refine g_iload_n hC 1 56 rfl dX6_add_55 rfl rfl ?_
          refine g_imul hC 57 dX6_add_56 rfl ?_
          refine g_iload_n hC 2 58 rfl dX6_add_57 rfl rfl ?_
          refine g_iadd hC 59 dX6_add_58 rfl ?_
          refine g_iconst hC 60 dX6_add_59 rfl ?_
          refine g_zast hC 61 tb_MD_14 (by decide) dX6_add_60 rfl (fun M9 => ?_)
          refine g_aload_n hC 0 62 rfl dX6_add_61 rfl rfl ?_
          refine g_getA hC 65 inX6 rfl 14 (by decide) gw_541 rfl tb_MD rfl dX6_add_62 rfl ?_
          refine g_iconst hC 66 dX6_add_65 rfl ?_
          refine g_iload_n hC 1 67 rfl dX6_add_66 rfl rfl ?_
          refine g_imul hC 68 dX6_add_67 rfl ?_
          refine g_iload_n hC 2 69 rfl dX6_add_68 rfl rfl ?_
          refine g_iadd hC 70 dX6_add_69 rfl ?_
          refine g_lload_n hC 3 71 rfl dX6_add_70 rfl rfl ?_
          refine g_last hC 72 tb_MD_15 (by decide) dX6_add_71 rfl (fun M10 => ?_)
          refine g_iconst hC 73 dX6_add_72 rfl ?_
          exact g_zreturn hC hr hk dX6_add_73
        · refine g_iconst hC 37 dX6_add_36 rfl ?_
          exact g_zreturn hC hr hk dX6_add_37
theorem cn_X6_add (l : Launch) (a1 : Int) (a2 : Int) (a3 : Int) (M : fMem) : fMt l vwCl TB yX6_add cX6_add 5 (some .boolean) 3 69 0 (fun ad => [.ref (ad 115), .int (fI a1), .int (fI a2), .long (fL a3)]) M (dn_X6_add a1 a2 a3 M) :=
  fMt.of (by decide +kernel) (fun _ => Nat.le_of_ble_eq_true rfl) (fun p e s m args below meth c D aC ad hC hr hk => wk_X6_add hC hr hk a1 a2 a3 M)
def dn_X6_hasLocal (a1 : Int) (M : fMem) : fOp :=
  fRd M 128 12 a1 (fun x1 => fEq x1 (-1) (fRz 0 M) (fRd M 129 12 a1 (fun x2 => fEq x2 0 (fRz 1 M) (fRz 0 M))))
set_option maxRecDepth 100000 in
set_option maxHeartbeats 4000000 in
theorem wk_X6_hasLocal {l : Launch} {p : Program} {e : Env} {s : State} {m : MethodId} {args : Array Value} {below : List Frame} {meth : Method} {c : Code} {D : va_G} {aC : Nat → ClassId} {ad : Nat → Nat} (hC : fCx p s m args c vwCl D aC TB ad (fFr ad TB) goodTs cX6_hasLocal RX6 2) (hr : meth.sig.returnType = some .boolean) (hk : meth.locks = false) (a1 : Int) (M : fMem) : GM l p e s m args below meth c D aC ad 2 0 0 0 0 [(0, .ref (ad 115)), (1, .int (fI a1))] [] M (dn_X6_hasLocal a1 M) := by
  unfold dn_X6_hasLocal
  refine g_aload_n hC 0 1 rfl dX6_hasLocal_0 rfl rfl ?_
  refine g_getA hC 4 inX6 rfl 12 (by decide) gw_539 rfl tb_MD rfl dX6_hasLocal_1 rfl ?_
  refine g_iload_n hC 1 5 rfl dX6_hasLocal_4 rfl rfl ?_
  refine g_iald hC 6 tb_MD_13 (by decide) dX6_hasLocal_5 rfl (fun x1 => ?_)
  refine g_iconst hC 7 dX6_hasLocal_6 rfl ?_
  refine g_icmp_eq hC 23 10 dX6_hasLocal_7 rfl rfl ?_ ?_
  · refine g_iconst hC 24 dX6_hasLocal_23 rfl ?_
    exact g_zreturn hC hr hk dX6_hasLocal_24
  · refine g_aload_n hC 0 11 rfl dX6_hasLocal_10 rfl rfl ?_
    refine g_getA hC 14 inX6 rfl 13 (by decide) gw_540 rfl tb_MD rfl dX6_hasLocal_11 rfl ?_
    refine g_iload_n hC 1 15 rfl dX6_hasLocal_14 rfl rfl ?_
    refine g_zald hC 16 tb_MD_14 (by decide) dX6_hasLocal_15 rfl (fun x2 => ?_)
    refine g_if_ne hC 23 19 dX6_hasLocal_16 rfl rfl ?_ ?_
    · refine g_iconst hC 24 dX6_hasLocal_23 rfl ?_
      exact g_zreturn hC hr hk dX6_hasLocal_24
    · refine g_iconst hC 20 dX6_hasLocal_19 rfl ?_
      refine g_goto hC 24 dX6_hasLocal_20 rfl ?_
      exact g_zreturn hC hr hk dX6_hasLocal_24
theorem cn_X6_hasLocal (l : Launch) (a1 : Int) (M : fMem) : fMt l vwCl TB yX6_hasLocal cX6_hasLocal 2 (some .boolean) 0 0 0 (fun ad => [.ref (ad 115), .int (fI a1)]) M (dn_X6_hasLocal a1 M) :=
  fMt.of (by decide +kernel) (fun _ => Nat.le_of_ble_eq_true rfl) (fun p e s m args below meth c D aC ad hC hr hk => wk_X6_hasLocal hC hr hk a1 M)
def dn_X6_edit (a1 : Int) (a2 : Int) (a3 : Int) (M : fMem) : fOp :=
  fCl (dn_X6_noPair a1 a2 M) (fun v1 M2 => fEq v1 0 (fCl (dn_X6_hasLocal ((4 * a1) + a2) M2) (fun v3 M4 => fEq v3 0 (fRz 0 M4) (fCl (dn_X6_noText a3 M4) (fun v5 M6 => fEq v5 0 (fWr M6 130 12 ((4 * a1) + a2) a3 (fun M7 => fRz 1 M7)) (fRz 0 M6))))) (fRz 0 M2))
set_option maxRecDepth 100000 in
set_option maxHeartbeats 4000000 in
theorem wk_X6_edit {l : Launch} {p : Program} {e : Env} {s : State} {m : MethodId} {args : Array Value} {below : List Frame} {meth : Method} {c : Code} {D : va_G} {aC : Nat → ClassId} {ad : Nat → Nat} (hC : fCx p s m args c vwCl D aC TB ad (fFr ad TB) goodTs cX6_edit RX6 5) (hr : meth.sig.returnType = some .boolean) (hk : meth.locks = false) (a1 : Int) (a2 : Int) (a3 : Int) (M : fMem) : GM l p e s m args below meth c D aC ad 5 3 69 0 0 [(0, .ref (ad 115)), (1, .int (fI a1)), (2, .int (fI a2)), (3, .long (fL a3))] [] M (dn_X6_edit a1 a2 a3 M) := by
  unfold dn_X6_edit
  refine g_iload_n hC 1 1 rfl dX6_edit_0 rfl rfl ?_
  refine g_iload_n hC 2 2 rfl dX6_edit_1 rfl rfl ?_
  refine g_cS hC 5 2 [.int (fI a1), .int (fI a2)] [] (cn_X6_noPair l a1 a2 _) rfl rfl gw_598 gw_600 gw_65 gw_599 (by decide +kernel) rfl ⟨Nat.le_of_ble_eq_true rfl, Nat.le_of_ble_eq_true rfl⟩ (Nat.le_of_ble_eq_true rfl) ⟨Nat.zero_le _, Nat.zero_le _⟩ dX6_edit_2 rfl (fun v1 => .int (fI v1) :: []) (fun _ => rfl) (fun v1 M2 => ?_)
  refine g_if_ne hC 27 8 dX6_edit_5 rfl rfl ?_ ?_
  · refine g_iconst hC 28 dX6_edit_27 rfl ?_
    exact g_zreturn hC hr hk dX6_edit_28
  · refine g_aload_n hC 0 9 rfl dX6_edit_8 rfl rfl ?_
    refine g_iconst hC 10 dX6_edit_9 rfl ?_
    refine g_iload_n hC 1 11 rfl dX6_edit_10 rfl rfl ?_
    refine g_imul hC 12 dX6_edit_11 rfl ?_
    refine g_iload_n hC 2 13 rfl dX6_edit_12 rfl rfl ?_
    refine g_iadd hC 14 dX6_edit_13 rfl ?_
    refine g_cV hC 17 1 [.int (fI ((4 * a1) + a2))] [] (cn_X6_hasLocal l ((4 * a1) + a2) _) rfl rfl tb_MD rfl gw_622 gw_625 gw_65 gw_624 gw_36 (by decide +kernel) rfl ⟨Nat.le_of_ble_eq_true rfl, Nat.le_of_ble_eq_true rfl⟩ (Nat.le_of_ble_eq_true rfl) ⟨Nat.zero_le _, Nat.zero_le _⟩ dX6_edit_14 rfl (fun v3 => .int (fI v3) :: []) (fun _ => rfl) (fun v3 M4 => ?_)
    refine g_if_eq hC 27 20 dX6_edit_17 rfl rfl ?_ ?_
    · refine g_iconst hC 28 dX6_edit_27 rfl ?_
      exact g_zreturn hC hr hk dX6_edit_28
    · refine g_lload_n hC 3 21 rfl dX6_edit_20 rfl rfl ?_
      refine g_cS hC 24 1 [.long (fL a3)] [] (cn_X6_noText l a3 _) rfl rfl gw_604 gw_606 gw_65 gw_605 (by decide +kernel) rfl ⟨Nat.le_of_ble_eq_true rfl, Nat.le_of_ble_eq_true rfl⟩ (Nat.le_of_ble_eq_true rfl) ⟨Nat.zero_le _, Nat.zero_le _⟩ dX6_edit_21 rfl (fun v5 => .int (fI v5) :: []) (fun _ => rfl) (fun v5 M6 => ?_)
      refine g_if_eq hC 29 27 dX6_edit_24 rfl rfl ?_ ?_
      · refine g_aload_n hC 0 30 rfl dX6_edit_29 rfl rfl ?_
        refine g_getA hC 33 inX6 rfl 14 (by decide) gw_541 rfl tb_MD rfl dX6_edit_30 rfl ?_
        refine g_iconst hC 34 dX6_edit_33 rfl ?_
        refine g_iload_n hC 1 35 rfl dX6_edit_34 rfl rfl ?_
        refine g_imul hC 36 dX6_edit_35 rfl ?_
        refine g_iload_n hC 2 37 rfl dX6_edit_36 rfl rfl ?_
        refine g_iadd hC 38 dX6_edit_37 rfl ?_
        refine g_lload_n hC 3 39 rfl dX6_edit_38 rfl rfl ?_
        refine g_last hC 40 tb_MD_15 (by decide) dX6_edit_39 rfl (fun M7 => ?_)
        refine g_iconst hC 41 dX6_edit_40 rfl ?_
        exact g_zreturn hC hr hk dX6_edit_41
      · refine g_iconst hC 28 dX6_edit_27 rfl ?_
        exact g_zreturn hC hr hk dX6_edit_28
theorem cn_X6_edit (l : Launch) (a1 : Int) (a2 : Int) (a3 : Int) (M : fMem) : fMt l vwCl TB yX6_edit cX6_edit 5 (some .boolean) 3 69 0 (fun ad => [.ref (ad 115), .int (fI a1), .int (fI a2), .long (fL a3)]) M (dn_X6_edit a1 a2 a3 M) :=
  fMt.of (by decide +kernel) (fun _ => Nat.le_of_ble_eq_true rfl) (fun p e s m args below meth c D aC ad hC hr hk => wk_X6_edit hC hr hk a1 a2 a3 M)
def dn_X6_remove (a1 : Int) (a2 : Int) (M : fMem) : fOp :=
  fCl (dn_X6_noPair a1 a2 M) (fun v1 M2 => fEq v1 0 (fCl (dn_X6_hasLocal ((4 * a1) + a2) M2) (fun v3 M4 => fEq v3 0 (fRz 0 M4) (fRd M4 128 12 ((4 * a1) + a2) (fun x5 => fEq x5 (-2) (fWr M4 128 12 ((4 * a1) + a2) (-1) (fun M7 => fRz 1 M7)) (fWz M4 129 12 ((4 * a1) + a2) 1 (fun M6 => fRz 1 M6)))))) (fRz 0 M2))
set_option maxRecDepth 100000 in
set_option maxHeartbeats 4000000 in
theorem wk_X6_remove {l : Launch} {p : Program} {e : Env} {s : State} {m : MethodId} {args : Array Value} {below : List Frame} {meth : Method} {c : Code} {D : va_G} {aC : Nat → ClassId} {ad : Nat → Nat} (hC : fCx p s m args c vwCl D aC TB ad (fFr ad TB) goodTs cX6_remove RX6 4) (hr : meth.sig.returnType = some .boolean) (hk : meth.locks = false) (a1 : Int) (a2 : Int) (M : fMem) : GM l p e s m args below meth c D aC ad 4 2 42 0 0 [(0, .ref (ad 115)), (1, .int (fI a1)), (2, .int (fI a2))] [] M (dn_X6_remove a1 a2 M) := by
  unfold dn_X6_remove
  refine g_iconst hC 1 dX6_remove_0 rfl ?_
  refine g_iload_n hC 1 2 rfl dX6_remove_1 rfl rfl ?_
  refine g_imul hC 3 dX6_remove_2 rfl ?_
  refine g_iload_n hC 2 4 rfl dX6_remove_3 rfl rfl ?_
  refine g_iadd hC 5 dX6_remove_4 rfl ?_
  refine g_istore_n hC 6 [(3, .int (fI ((4 * a1) + a2))), (0, .ref (ad 115)), (1, .int (fI a1)), (2, .int (fI a2))] dX6_remove_5 rfl (by decide) rfl rfl ?_
  refine g_iload_n hC 2 7 rfl dX6_remove_6 rfl rfl ?_
  refine g_iload_n hC 3 8 rfl dX6_remove_7 rfl rfl ?_
  refine g_cS hC 11 2 [.int (fI a1), .int (fI a2)] [] (cn_X6_noPair l a1 a2 _) rfl rfl gw_598 gw_600 gw_65 gw_599 (by decide +kernel) rfl ⟨Nat.le_of_ble_eq_true rfl, Nat.le_of_ble_eq_true rfl⟩ (Nat.le_of_ble_eq_true rfl) ⟨Nat.zero_le _, Nat.zero_le _⟩ dX6_remove_8 rfl (fun v1 => .int (fI v1) :: []) (fun _ => rfl) (fun v1 M2 => ?_)
  refine g_if_ne hC 22 14 dX6_remove_11 rfl rfl ?_ ?_
  · refine g_iconst hC 23 dX6_remove_22 rfl ?_
    exact g_zreturn hC hr hk dX6_remove_23
  · refine g_aload_n hC 1 15 rfl dX6_remove_14 rfl rfl ?_
    refine g_iload_n hC 0 16 rfl dX6_remove_15 rfl rfl ?_
    refine g_cV hC 19 1 [.int (fI ((4 * a1) + a2))] [] (cn_X6_hasLocal l ((4 * a1) + a2) _) rfl rfl tb_MD rfl gw_622 gw_625 gw_65 gw_624 gw_36 (by decide +kernel) rfl ⟨Nat.le_of_ble_eq_true rfl, Nat.le_of_ble_eq_true rfl⟩ (Nat.le_of_ble_eq_true rfl) ⟨Nat.zero_le _, Nat.zero_le _⟩ dX6_remove_16 rfl (fun v3 => .int (fI v3) :: []) (fun _ => rfl) (fun v3 M4 => ?_)
    refine g_if_ne hC 24 22 dX6_remove_19 rfl rfl ?_ ?_
    · refine g_aload_n hC 1 25 rfl dX6_remove_24 rfl rfl ?_
      refine g_getA hC 28 inX6 rfl 12 (by decide) gw_539 rfl tb_MD rfl dX6_remove_25 rfl ?_
      refine g_iload_n hC 0 29 rfl dX6_remove_28 rfl rfl ?_
      refine g_iald hC 30 tb_MD_13 (by decide) dX6_remove_29 rfl (fun x5 => ?_)
      refine g_bipush hC 32 dX6_remove_30 rfl (by decide +kernel) ?_
      refine g_icmp_ne hC 45 35 dX6_remove_32 rfl rfl ?_ ?_
      · refine g_aload_n hC 1 46 rfl dX6_remove_45 rfl rfl ?_
        refine g_getA hC 49 inX6 rfl 13 (by decide) gw_540 rfl tb_MD rfl dX6_remove_46 rfl ?_
        refine g_iload_n hC 0 50 rfl dX6_remove_49 rfl rfl ?_
        refine g_iconst hC 51 dX6_remove_50 rfl ?_
        refine g_zast hC 52 tb_MD_14 (by decide) dX6_remove_51 rfl (fun M6 => ?_)
        refine g_iconst hC 53 dX6_remove_52 rfl ?_
        exact g_zreturn hC hr hk dX6_remove_53
      · refine g_aload_n hC 1 36 rfl dX6_remove_35 rfl rfl ?_
        refine g_getA hC 39 inX6 rfl 12 (by decide) gw_539 rfl tb_MD rfl dX6_remove_36 rfl ?_
        refine g_iload_n hC 0 40 rfl dX6_remove_39 rfl rfl ?_
        refine g_iconst hC 41 dX6_remove_40 rfl ?_
        refine g_iast hC 42 tb_MD_13 (by decide) dX6_remove_41 rfl (fun M7 => ?_)
        refine g_goto hC 52 dX6_remove_42 rfl ?_
        refine g_iconst hC 53 dX6_remove_52 rfl ?_
        exact g_zreturn hC hr hk dX6_remove_53
    · refine g_iconst hC 23 dX6_remove_22 rfl ?_
      exact g_zreturn hC hr hk dX6_remove_23
theorem cn_X6_remove (l : Launch) (a1 : Int) (a2 : Int) (M : fMem) : fMt l vwCl TB yX6_remove cX6_remove 4 (some .boolean) 2 42 0 (fun ad => [.ref (ad 115), .int (fI a1), .int (fI a2)]) M (dn_X6_remove a1 a2 M) :=
  fMt.of (by decide +kernel) (fun _ => Nat.le_of_ble_eq_true rfl) (fun p e s m args below meth c D aC ad hC hr hk => wk_X6_remove hC hr hk a1 a2 M)
def dn_X6_last_J38  (r : Int → Int → fMem → fOp) (a1 a2 a3 a4 as0 : Int) (M : fMem) : fOp :=
  r as0 (a4 + 1) M
set_option maxRecDepth 100000 in
set_option maxHeartbeats 4000000 in
theorem wk_X6_last_J38 {l : Launch} {p : Program} {e : Env} {s : State} {m : MethodId} {args : Array Value} {below : List Frame} {meth : Method} {c : Code} {D : va_G} {aC : Nat → ClassId} {ad : Nat → Nat} (hC : fCx p s m args c vwCl D aC TB ad (fFr ad TB) goodTs cX6_last RX6 5) (hr : meth.sig.returnType = some .int) (hk : meth.locks = false) (a1 a2 a3 a4 as0 : Int)  (r : Int → Int → fMem → fOp) (hrc : ∀ (z3 z4 : Int) (M : fMem), GM l p e s m args below meth c D aC ad 5 0 0 0 5 [(0, .ref (ad 115)), (1, .int (fI a1)), (2, .int (fI a2)), (3, .int (fI z3)), (4, .int (fI z4))] [] M (r z3 z4 M)) (M : fMem) : GM l p e s m args below meth c D aC ad 5 0 0 0 38 [(0, .ref (ad 115)), (1, .int (fI a1)), (2, .int (fI a2)), (3, .int (fI a3)), (4, .int (fI a4))] [.int (fI as0)] M (dn_X6_last_J38 r a1 a2 a3 a4 as0 M) := by
  unfold dn_X6_last_J38
  refine g_istore_n hC 39 [(3, .int (fI as0)), (0, .ref (ad 115)), (1, .int (fI a1)), (2, .int (fI a2)), (4, .int (fI a4))] dX6_last_38 rfl (by decide) rfl rfl ?_
  refine g_iinc hC 4 42 [(4, .int (fI (a4 + 1))), (3, .int (fI as0)), (0, .ref (ad 115)), (1, .int (fI a1)), (2, .int (fI a2))] rfl dX6_last_39 (by decide) rfl rfl ?_
  refine g_goto hC 5 dX6_last_42 rfl ?_
  refine g_lv [2, 3, 4, 1, 0] rfl ?_
  exact hrc _ _ _
def dn_X6_last_L5B  (a1 a2 : Int) (r : Int → Int → fMem → fOp) (a3 a4 : Int) (M : fMem) : fOp :=
  fRd M 116 4 a1 (fun x1 => fLe x1 a4 (some (a3, M)) (fRd M 119 96 ((24 * a1) + a4) (fun x2 => fEq x2 a2 (dn_X6_last_J38 r a1 a2 a3 a4 a4 M) (dn_X6_last_J38 r a1 a2 a3 a4 a3 M))))
def dn_X6_last_L5  (a1 a2 : Int) : Nat → Int → Int → fMem → fOp
  | 0, _, _, _ => none
  | n + 1, a3, a4, M => dn_X6_last_L5B a1 a2 (fun a3 a4 M => dn_X6_last_L5 a1 a2 n a3 a4 M) a3 a4 M
set_option maxRecDepth 100000 in
set_option maxHeartbeats 4000000 in
theorem wk_X6_last_L5B {l : Launch} {p : Program} {e : Env} {s : State} {m : MethodId} {args : Array Value} {below : List Frame} {meth : Method} {c : Code} {D : va_G} {aC : Nat → ClassId} {ad : Nat → Nat} (hC : fCx p s m args c vwCl D aC TB ad (fFr ad TB) goodTs cX6_last RX6 5) (hr : meth.sig.returnType = some .int) (hk : meth.locks = false) (a1 a2 : Int) (r : Int → Int → fMem → fOp) (hrc : ∀ (a3 a4 : Int) (M : fMem), GM l p e s m args below meth c D aC ad 5 0 0 0 5 [(0, .ref (ad 115)), (1, .int (fI a1)), (2, .int (fI a2)), (3, .int (fI a3)), (4, .int (fI a4))] [] M (r a3 a4 M)) (a3 a4 : Int) (M : fMem) : GM l p e s m args below meth c D aC ad 5 0 0 0 5 [(0, .ref (ad 115)), (1, .int (fI a1)), (2, .int (fI a2)), (3, .int (fI a3)), (4, .int (fI a4))] [] M (dn_X6_last_L5B a1 a2 r a3 a4 M) := by
  unfold dn_X6_last_L5B
  refine g_iload hC 4 7 rfl dX6_last_5 rfl ?_
  refine g_aload_n hC 0 8 rfl dX6_last_7 rfl rfl ?_
  refine g_getA hC 11 inX6 rfl 0 (by decide) gw_527 rfl tb_MD rfl dX6_last_8 rfl ?_
  refine g_iload_n hC 1 12 rfl dX6_last_11 rfl rfl ?_
  refine g_iald hC 13 tb_MD_1 (by decide) dX6_last_12 rfl (fun x1 => ?_)
  refine g_icmp_ge hC 45 16 dX6_last_13 rfl rfl ?_ ?_
  · refine g_iload_n hC 3 46 rfl dX6_last_45 rfl rfl ?_
    exact g_ireturn hC hr hk dX6_last_46
  · refine g_aload_n hC 0 17 rfl dX6_last_16 rfl rfl ?_
    refine g_getA hC 20 inX6 rfl 3 (by decide) gw_530 rfl tb_MD rfl dX6_last_17 rfl ?_
    refine g_bipush hC 22 dX6_last_20 rfl (by decide +kernel) ?_
    refine g_iload_n hC 1 23 rfl dX6_last_22 rfl rfl ?_
    refine g_imul hC 24 dX6_last_23 rfl ?_
    refine g_iload hC 4 26 rfl dX6_last_24 rfl ?_
    refine g_iadd hC 27 dX6_last_26 rfl ?_
    refine g_iald hC 28 tb_MD_4 (by decide) dX6_last_27 rfl (fun x2 => ?_)
    refine g_iload_n hC 2 29 rfl dX6_last_28 rfl rfl ?_
    refine g_icmp_ne hC 37 32 dX6_last_29 rfl rfl ?_ ?_
    · refine g_iload_n hC 3 38 rfl dX6_last_37 rfl rfl ?_
      exact wk_X6_last_J38 hC hr hk _ _ _ _ _ _ hrc _
    · refine g_iload hC 4 34 rfl dX6_last_32 rfl ?_
      refine g_goto hC 38 dX6_last_34 rfl ?_
      exact wk_X6_last_J38 hC hr hk _ _ _ _ _ _ hrc _
set_option maxRecDepth 100000 in
set_option maxHeartbeats 4000000 in
theorem wk_X6_last_L5 {l : Launch} {p : Program} {e : Env} {s : State} {m : MethodId} {args : Array Value} {below : List Frame} {meth : Method} {c : Code} {D : va_G} {aC : Nat → ClassId} {ad : Nat → Nat} (hC : fCx p s m args c vwCl D aC TB ad (fFr ad TB) goodTs cX6_last RX6 5) (hr : meth.sig.returnType = some .int) (hk : meth.locks = false) (a1 a2 : Int) (n : Nat) : ∀ (a3 a4 : Int) (M : fMem), GM l p e s m args below meth c D aC ad 5 0 0 0 5 [(0, .ref (ad 115)), (1, .int (fI a1)), (2, .int (fI a2)), (3, .int (fI a3)), (4, .int (fI a4))] [] M (dn_X6_last_L5 a1 a2 n a3 a4 M) := by
  induction n with
  | zero => intro a3 a4 M; exact g_none
  | succ n ih => intro a3 a4 M; exact wk_X6_last_L5B hC hr hk a1 a2 (fun a3 a4 M => dn_X6_last_L5 a1 a2 n a3 a4 M) ih a3 a4 M
def dn_X6_last (a1 : Int) (a2 : Int) (M : fMem) : fOp :=
  dn_X6_last_L5 a1 a2 600 (-1) 0 M
set_option maxRecDepth 100000 in
set_option maxHeartbeats 4000000 in
theorem wk_X6_last {l : Launch} {p : Program} {e : Env} {s : State} {m : MethodId} {args : Array Value} {below : List Frame} {meth : Method} {c : Code} {D : va_G} {aC : Nat → ClassId} {ad : Nat → Nat} (hC : fCx p s m args c vwCl D aC TB ad (fFr ad TB) goodTs cX6_last RX6 5) (hr : meth.sig.returnType = some .int) (hk : meth.locks = false) (a1 : Int) (a2 : Int) (M : fMem) : GM l p e s m args below meth c D aC ad 5 0 0 0 0 [(0, .ref (ad 115)), (1, .int (fI a1)), (2, .int (fI a2))] [] M (dn_X6_last a1 a2 M) := by
  unfold dn_X6_last
  refine g_iconst hC 1 dX6_last_0 rfl ?_
  refine g_istore_n hC 2 [(3, .int (fI (-1))), (0, .ref (ad 115)), (1, .int (fI a1)), (2, .int (fI a2))] dX6_last_1 rfl (by decide) rfl rfl ?_
  refine g_iconst hC 3 dX6_last_2 rfl ?_
  refine g_istore hC 5 [(4, .int (fI 0)), (3, .int (fI (-1))), (0, .ref (ad 115)), (1, .int (fI a1)), (2, .int (fI a2))] dX6_last_3 (by decide) rfl rfl ?_
  refine g_lv [2, 3, 4, 1, 0] rfl ?_
  refine wk_X6_last_L5 hC hr hk _ _ 600 _ _ _
theorem cn_X6_last (l : Launch) (a1 : Int) (a2 : Int) (M : fMem) : fMt l vwCl TB yX6_last cX6_last 5 (some .int) 0 0 0 (fun ad => [.ref (ad 115), .int (fI a1), .int (fI a2)]) M (dn_X6_last a1 a2 M) :=
  fMt.of (by decide +kernel) (fun _ => Nat.le_of_ble_eq_true rfl) (fun p e s m args below meth c D aC ad hC hr hk => wk_X6_last hC hr hk a1 a2 M)
def dn_X6_selectedBy (a1 : Int) (a2 : Int) (M : fMem) : fOp :=
  fRd M 116 4 a1 (fun x1 => fEq x1 0 (some ((-1), M)) (fEq a2 (-1) (fRd M 125 4 a1 (fun x7 => fCl (dn_X6_last a1 x7 M) (fun v8 M9 => some (v8, M9)))) (fRd M 127 20 ((5 * a1) + a2) (fun x2 => fEq x2 (-1) (some (x2, M)) (fRd M 126 5 a2 (fun x3 => fEq x3 1 (some (x2, M)) (fCl (dn_X6_last a1 x2 M) (fun v4 M5 => fLe 0 v4 (some (v4, M5)) (fRd M5 122 24 ((6 * a1) + x2) (fun x6 => some (x6, M5)))))))))))
set_option maxRecDepth 100000 in
set_option maxHeartbeats 4000000 in
theorem wk_X6_selectedBy {l : Launch} {p : Program} {e : Env} {s : State} {m : MethodId} {args : Array Value} {below : List Frame} {meth : Method} {c : Code} {D : va_G} {aC : Nat → ClassId} {ad : Nat → Nat} (hC : fCx p s m args c vwCl D aC TB ad (fFr ad TB) goodTs cX6_selectedBy RX6 5) (hr : meth.sig.returnType = some .int) (hk : meth.locks = false) (a1 : Int) (a2 : Int) (M : fMem) : GM l p e s m args below meth c D aC ad 5 1 24 0 0 [(0, .ref (ad 115)), (1, .int (fI a1)), (2, .int (fI a2))] [] M (dn_X6_selectedBy a1 a2 M) := by
  unfold dn_X6_selectedBy
  refine g_aload_n hC 0 1 rfl dX6_selectedBy_0 rfl rfl ?_
  refine g_getA hC 4 inX6 rfl 0 (by decide) gw_527 rfl tb_MD rfl dX6_selectedBy_1 rfl ?_
  refine g_iload_n hC 1 5 rfl dX6_selectedBy_4 rfl rfl ?_
  refine g_iald hC 6 tb_MD_1 (by decide) dX6_selectedBy_5 rfl (fun x1 => ?_)
  refine g_if_ne hC 11 9 dX6_selectedBy_6 rfl rfl ?_ ?_
  · refine g_iload_n hC 2 12 rfl dX6_selectedBy_11 rfl rfl ?_
    refine g_iconst hC 13 dX6_selectedBy_12 rfl ?_
    refine g_icmp_ne hC 28 16 dX6_selectedBy_13 rfl rfl ?_ ?_
    · refine g_aload_n hC 0 29 rfl dX6_selectedBy_28 rfl rfl ?_
      refine g_getA hC 32 inX6 rfl 11 (by decide) gw_538 rfl tb_MD rfl dX6_selectedBy_29 rfl ?_
      refine g_iconst hC 33 dX6_selectedBy_32 rfl ?_
      refine g_iload_n hC 1 34 rfl dX6_selectedBy_33 rfl rfl ?_
      refine g_imul hC 35 dX6_selectedBy_34 rfl ?_
      refine g_iload_n hC 2 36 rfl dX6_selectedBy_35 rfl rfl ?_
      refine g_iadd hC 37 dX6_selectedBy_36 rfl ?_
      refine g_iald hC 38 tb_MD_12 (by decide) dX6_selectedBy_37 rfl (fun x2 => ?_)
      refine g_istore_n hC 39 [(3, .int (fI x2)), (0, .ref (ad 115)), (1, .int (fI a1)), (2, .int (fI a2))] dX6_selectedBy_38 rfl (by decide) rfl rfl ?_
      refine g_iload_n hC 0 40 rfl dX6_selectedBy_39 rfl rfl ?_
      refine g_iconst hC 41 dX6_selectedBy_40 rfl ?_
      refine g_icmp_eq hC 54 44 dX6_selectedBy_41 rfl rfl ?_ ?_
      · refine g_iload_n hC 0 55 rfl dX6_selectedBy_54 rfl rfl ?_
        exact g_ireturn hC hr hk dX6_selectedBy_55
      · refine g_aload_n hC 1 45 rfl dX6_selectedBy_44 rfl rfl ?_
        refine g_getA hC 48 inX6 rfl 10 (by decide) gw_537 rfl tb_MD rfl dX6_selectedBy_45 rfl ?_
        refine g_iload_n hC 3 49 rfl dX6_selectedBy_48 rfl rfl ?_
        refine g_iald hC 50 tb_MD_11 (by decide) dX6_selectedBy_49 rfl (fun x3 => ?_)
        refine g_iconst hC 51 dX6_selectedBy_50 rfl ?_
        refine g_icmp_ne hC 56 54 dX6_selectedBy_51 rfl rfl ?_ ?_
        · refine g_aload_n hC 1 57 rfl dX6_selectedBy_56 rfl rfl ?_
          refine g_iload_n hC 2 58 rfl dX6_selectedBy_57 rfl rfl ?_
          refine g_iload_n hC 0 59 rfl dX6_selectedBy_58 rfl rfl ?_
          refine g_cV hC 62 2 [.int (fI a1), .int (fI x2)] [] (cn_X6_last l a1 x2 _) rfl rfl tb_MD rfl gw_642 gw_645 gw_65 gw_644 gw_39 (by decide +kernel) rfl ⟨Nat.le_of_ble_eq_true rfl, Nat.le_of_ble_eq_true rfl⟩ (Nat.le_of_ble_eq_true rfl) ⟨Nat.zero_le _, Nat.zero_le _⟩ dX6_selectedBy_59 rfl (fun v4 => .int (fI v4) :: []) (fun _ => rfl) (fun v4 M5 => ?_)
          refine g_istore hC 64 [(4, .int (fI v4)), (3, .int (fI x2)), (0, .ref (ad 115)), (1, .int (fI a1)), (2, .int (fI a2))] dX6_selectedBy_62 (by decide) rfl rfl ?_
          refine g_iload hC 0 66 rfl dX6_selectedBy_64 rfl ?_
          refine g_if_ge hC 83 69 dX6_selectedBy_66 rfl rfl ?_ ?_
          · refine g_iload hC 0 85 rfl dX6_selectedBy_83 rfl ?_
            exact g_ireturn hC hr hk dX6_selectedBy_85
          · refine g_aload_n hC 2 70 rfl dX6_selectedBy_69 rfl rfl ?_
            refine g_getA hC 73 inX6 rfl 6 (by decide) gw_533 rfl tb_MD rfl dX6_selectedBy_70 rfl ?_
            refine g_bipush hC 75 dX6_selectedBy_73 rfl (by decide +kernel) ?_
            refine g_iload_n hC 3 76 rfl dX6_selectedBy_75 rfl rfl ?_
            refine g_imul hC 77 dX6_selectedBy_76 rfl ?_
            refine g_iload_n hC 1 78 rfl dX6_selectedBy_77 rfl rfl ?_
            refine g_iadd hC 79 dX6_selectedBy_78 rfl ?_
            refine g_iald hC 80 tb_MD_7 (by decide) dX6_selectedBy_79 rfl (fun x6 => ?_)
            refine g_goto hC 85 dX6_selectedBy_80 rfl ?_
            exact g_ireturn hC hr hk dX6_selectedBy_85
        · refine g_iload_n hC 0 55 rfl dX6_selectedBy_54 rfl rfl ?_
          exact g_ireturn hC hr hk dX6_selectedBy_55
    · refine g_aload_n hC 0 17 rfl dX6_selectedBy_16 rfl rfl ?_
      refine g_iload_n hC 1 18 rfl dX6_selectedBy_17 rfl rfl ?_
      refine g_aload_n hC 0 19 rfl dX6_selectedBy_18 rfl rfl ?_
      refine g_getA hC 22 inX6 rfl 9 (by decide) gw_536 rfl tb_MD rfl dX6_selectedBy_19 rfl ?_
      refine g_iload_n hC 1 23 rfl dX6_selectedBy_22 rfl rfl ?_
      refine g_iald hC 24 tb_MD_10 (by decide) dX6_selectedBy_23 rfl (fun x7 => ?_)
      refine g_cV hC 27 2 [.int (fI a1), .int (fI x7)] [] (cn_X6_last l a1 x7 _) rfl rfl tb_MD rfl gw_642 gw_645 gw_65 gw_644 gw_39 (by decide +kernel) rfl ⟨Nat.le_of_ble_eq_true rfl, Nat.le_of_ble_eq_true rfl⟩ (Nat.le_of_ble_eq_true rfl) ⟨Nat.zero_le _, Nat.zero_le _⟩ dX6_selectedBy_24 rfl (fun v8 => .int (fI v8) :: []) (fun _ => rfl) (fun v8 M9 => ?_)
      exact g_ireturn hC hr hk dX6_selectedBy_27
  · refine g_iconst hC 10 dX6_selectedBy_9 rfl ?_
    exact g_ireturn hC hr hk dX6_selectedBy_10
theorem cn_X6_selectedBy (l : Launch) (a1 : Int) (a2 : Int) (M : fMem) : fMt l vwCl TB yX6_selectedBy cX6_selectedBy 5 (some .int) 1 24 0 (fun ad => [.ref (ad 115), .int (fI a1), .int (fI a2)]) M (dn_X6_selectedBy a1 a2 M) :=
  fMt.of (by decide +kernel) (fun _ => Nat.le_of_ble_eq_true rfl) (fun p e s m args below meth c D aC ad hC hr hk => wk_X6_selectedBy hC hr hk a1 a2 M)
def dn_X6_noneOrDead_J18  (a1 a2 : Int) (M : fMem) : fOp :=
  fRz 1 M
set_option maxRecDepth 100000 in
set_option maxHeartbeats 4000000 in
theorem wk_X6_noneOrDead_J18 {l : Launch} {p : Program} {e : Env} {s : State} {m : MethodId} {args : Array Value} {below : List Frame} {meth : Method} {c : Code} {D : va_G} {aC : Nat → ClassId} {ad : Nat → Nat} (hC : fCx p s m args c vwCl D aC TB ad (fFr ad TB) goodTs cX6_noneOrDead RX6 3) (hr : meth.sig.returnType = some .boolean) (hk : meth.locks = false) (a1 a2 : Int)  (M : fMem) : GM l p e s m args below meth c D aC ad 3 0 0 0 18 [(0, .ref (ad 115)), (1, .int (fI a1)), (2, .int (fI a2))] [] M (dn_X6_noneOrDead_J18 a1 a2 M) := by
  unfold dn_X6_noneOrDead_J18
  refine g_iconst hC 19 dX6_noneOrDead_18 rfl ?_
  refine g_goto hC 23 dX6_noneOrDead_19 rfl ?_
  exact g_zreturn hC hr hk dX6_noneOrDead_23
def dn_X6_noneOrDead (a1 : Int) (a2 : Int) (M : fMem) : fOp :=
  fLt a2 0 (dn_X6_noneOrDead_J18 a1 a2 M) (fRd M 118 96 ((24 * a1) + a2) (fun x1 => fEq x1 0 (fRz 0 M) (dn_X6_noneOrDead_J18 a1 a2 M)))
set_option maxRecDepth 100000 in
set_option maxHeartbeats 4000000 in
theorem wk_X6_noneOrDead {l : Launch} {p : Program} {e : Env} {s : State} {m : MethodId} {args : Array Value} {below : List Frame} {meth : Method} {c : Code} {D : va_G} {aC : Nat → ClassId} {ad : Nat → Nat} (hC : fCx p s m args c vwCl D aC TB ad (fFr ad TB) goodTs cX6_noneOrDead RX6 3) (hr : meth.sig.returnType = some .boolean) (hk : meth.locks = false) (a1 : Int) (a2 : Int) (M : fMem) : GM l p e s m args below meth c D aC ad 3 0 0 0 0 [(0, .ref (ad 115)), (1, .int (fI a1)), (2, .int (fI a2))] [] M (dn_X6_noneOrDead a1 a2 M) := by
  unfold dn_X6_noneOrDead
  refine g_iload_n hC 2 1 rfl dX6_noneOrDead_0 rfl rfl ?_
  refine g_if_lt hC 18 4 dX6_noneOrDead_1 rfl rfl ?_ ?_
  · exact wk_X6_noneOrDead_J18 hC hr hk _ _ _
  · refine g_aload_n hC 0 5 rfl dX6_noneOrDead_4 rfl rfl ?_
    refine g_getA hC 8 inX6 rfl 2 (by decide) gw_529 rfl tb_MD rfl dX6_noneOrDead_5 rfl ?_
    refine g_bipush hC 10 dX6_noneOrDead_8 rfl (by decide +kernel) ?_
    refine g_iload_n hC 1 11 rfl dX6_noneOrDead_10 rfl rfl ?_
    refine g_imul hC 12 dX6_noneOrDead_11 rfl ?_
    refine g_iload_n hC 2 13 rfl dX6_noneOrDead_12 rfl rfl ?_
    refine g_iadd hC 14 dX6_noneOrDead_13 rfl ?_
    refine g_zald hC 15 tb_MD_3 (by decide) dX6_noneOrDead_14 rfl (fun x1 => ?_)
    refine g_if_eq hC 22 18 dX6_noneOrDead_15 rfl rfl ?_ ?_
    · refine g_iconst hC 23 dX6_noneOrDead_22 rfl ?_
      exact g_zreturn hC hr hk dX6_noneOrDead_23
    · exact wk_X6_noneOrDead_J18 hC hr hk _ _ _
theorem cn_X6_noneOrDead (l : Launch) (a1 : Int) (a2 : Int) (M : fMem) : fMt l vwCl TB yX6_noneOrDead cX6_noneOrDead 3 (some .boolean) 0 0 0 (fun ad => [.ref (ad 115), .int (fI a1), .int (fI a2)]) M (dn_X6_noneOrDead a1 a2 M) :=
  fMt.of (by decide +kernel) (fun _ => Nat.le_of_ble_eq_true rfl) (fun p e s m args below meth c D aC ad hC hr hk => wk_X6_noneOrDead hC hr hk a1 a2 M)
def dn_X6_modified (a1 : Int) (a2 : Int) (M : fMem) : fOp :=
  fRd M 129 12 a2 (fun x1 => fEq x1 0 (fRd M 130 12 a2 (fun x2 => fRd M 128 12 a2 (fun x3 => fRd M 117 96 ((24 * a1) + x3) (fun x4 => fEqL x2 x4 (fRz 0 M) (fRz 1 M))))) (fRz 0 M))
set_option maxRecDepth 100000 in
set_option maxHeartbeats 4000000 in
theorem wk_X6_modified {l : Launch} {p : Program} {e : Env} {s : State} {m : MethodId} {args : Array Value} {below : List Frame} {meth : Method} {c : Code} {D : va_G} {aC : Nat → ClassId} {ad : Nat → Nat} (hC : fCx p s m args c vwCl D aC TB ad (fFr ad TB) goodTs cX6_modified RX6 3) (hr : meth.sig.returnType = some .boolean) (hk : meth.locks = false) (a1 : Int) (a2 : Int) (M : fMem) : GM l p e s m args below meth c D aC ad 3 0 0 0 0 [(0, .ref (ad 115)), (1, .int (fI a1)), (2, .int (fI a2))] [] M (dn_X6_modified a1 a2 M) := by
  unfold dn_X6_modified
  refine g_aload_n hC 0 1 rfl dX6_modified_0 rfl rfl ?_
  refine g_getA hC 4 inX6 rfl 13 (by decide) gw_540 rfl tb_MD rfl dX6_modified_1 rfl ?_
  refine g_iload_n hC 2 5 rfl dX6_modified_4 rfl rfl ?_
  refine g_zald hC 6 tb_MD_14 (by decide) dX6_modified_5 rfl (fun x1 => ?_)
  refine g_if_ne hC 39 9 dX6_modified_6 rfl rfl ?_ ?_
  · refine g_iconst hC 40 dX6_modified_39 rfl ?_
    exact g_zreturn hC hr hk dX6_modified_40
  · refine g_aload_n hC 0 10 rfl dX6_modified_9 rfl rfl ?_
    refine g_getA hC 13 inX6 rfl 14 (by decide) gw_541 rfl tb_MD rfl dX6_modified_10 rfl ?_
    refine g_iload_n hC 2 14 rfl dX6_modified_13 rfl rfl ?_
    refine g_lald hC 15 tb_MD_15 (by decide) dX6_modified_14 rfl (fun x2 => ?_)
    refine g_aload_n hC 0 16 rfl dX6_modified_15 rfl rfl ?_
    refine g_getA hC 19 inX6 rfl 1 (by decide) gw_528 rfl tb_MD rfl dX6_modified_16 rfl ?_
    refine g_bipush hC 21 dX6_modified_19 rfl (by decide +kernel) ?_
    refine g_iload_n hC 1 22 rfl dX6_modified_21 rfl rfl ?_
    refine g_imul hC 23 dX6_modified_22 rfl ?_
    refine g_aload_n hC 0 24 rfl dX6_modified_23 rfl rfl ?_
    refine g_getA hC 27 inX6 rfl 12 (by decide) gw_539 rfl tb_MD rfl dX6_modified_24 rfl ?_
    refine g_iload_n hC 2 28 rfl dX6_modified_27 rfl rfl ?_
    refine g_iald hC 29 tb_MD_13 (by decide) dX6_modified_28 rfl (fun x3 => ?_)
    refine g_iadd hC 30 dX6_modified_29 rfl ?_
    refine g_lald hC 31 tb_MD_2 (by decide) dX6_modified_30 rfl (fun x4 => ?_)
    refine g_lcmp_eq hC 39 35 dX6_modified_31 dX6_modified_32 rfl rfl ?_ ?_
    · refine g_iconst hC 40 dX6_modified_39 rfl ?_
      exact g_zreturn hC hr hk dX6_modified_40
    · refine g_iconst hC 36 dX6_modified_35 rfl ?_
      refine g_goto hC 40 dX6_modified_36 rfl ?_
      exact g_zreturn hC hr hk dX6_modified_40
theorem cn_X6_modified (l : Launch) (a1 : Int) (a2 : Int) (M : fMem) : fMt l vwCl TB yX6_modified cX6_modified 3 (some .boolean) 0 0 0 (fun ad => [.ref (ad 115), .int (fI a1), .int (fI a2)]) M (dn_X6_modified a1 a2 M) :=
  fMt.of (by decide +kernel) (fun _ => Nat.le_of_ble_eq_true rfl) (fun p e s m args below meth c D aC ad hC hr hk => wk_X6_modified hC hr hk a1 a2 M)
def dn_X6_bars_J197  (a1 a2 a3 a4 a5 a6 a7 : Int) (M : fMem) : fOp :=
  some ((-7), M)
set_option maxRecDepth 100000 in
set_option maxHeartbeats 4000000 in
theorem wk_X6_bars_J197 {l : Launch} {p : Program} {e : Env} {s : State} {m : MethodId} {args : Array Value} {below : List Frame} {meth : Method} {c : Code} {D : va_G} {aC : Nat → ClassId} {ad : Nat → Nat} (hC : fCx p s m args c vwCl D aC TB ad (fFr ad TB) goodTs cX6_bars RX6 8) (hr : meth.sig.returnType = some .int) (hk : meth.locks = false) (a1 a2 a3 a4 a5 a6 a7 : Int)  (M : fMem) : GM l p e s m args below meth c D aC ad 8 3 69 0 197 [(0, .ref (ad 115)), (1, .int (fI a1)), (2, .int (fI a2)), (3, .int (fI a3)), (4, .int (fI a4)), (5, .int (fI a5)), (6, .int (fI a6)), (7, .int (fI a7))] [] M (dn_X6_bars_J197 a1 a2 a3 a4 a5 a6 a7 M) := by
  unfold dn_X6_bars_J197
  refine g_bipush hC 199 dX6_bars_197 rfl (by decide +kernel) ?_
  refine g_goto hC 203 dX6_bars_199 rfl ?_
  exact g_ireturn hC hr hk dX6_bars_203
def dn_X6_bars_J166  (a1 a2 a3 a4 a5 a6 as0 : Int) (M : fMem) : fOp :=
  fRd M 116 4 a1 (fun x6 => fLt 24 (x6 + a6) (dn_X6_bars_J197 a1 a2 a3 a4 a5 a6 as0 M) (fEq as0 0 (some (0, M)) (fRd M 121 4 a1 (fun x7 => fEq x7 5 (dn_X6_bars_J197 a1 a2 a3 a4 a5 a6 as0 M) (some (0, M))))))
set_option maxRecDepth 100000 in
set_option maxHeartbeats 4000000 in
theorem wk_X6_bars_J166 {l : Launch} {p : Program} {e : Env} {s : State} {m : MethodId} {args : Array Value} {below : List Frame} {meth : Method} {c : Code} {D : va_G} {aC : Nat → ClassId} {ad : Nat → Nat} (hC : fCx p s m args c vwCl D aC TB ad (fFr ad TB) goodTs cX6_bars RX6 8) (hr : meth.sig.returnType = some .int) (hk : meth.locks = false) (a1 a2 a3 a4 a5 a6 as0 : Int)  (M : fMem) : GM l p e s m args below meth c D aC ad 8 3 69 0 166 [(0, .ref (ad 115)), (1, .int (fI a1)), (2, .int (fI a2)), (3, .int (fI a3)), (4, .int (fI a4)), (5, .int (fI a5)), (6, .int (fI a6))] [.int (fI as0)] M (dn_X6_bars_J166 a1 a2 a3 a4 a5 a6 as0 M) := by
  unfold dn_X6_bars_J166
  refine g_istore hC 168 [(7, .int (fI as0)), (0, .ref (ad 115)), (1, .int (fI a1)), (2, .int (fI a2)), (3, .int (fI a3)), (4, .int (fI a4)), (5, .int (fI a5)), (6, .int (fI a6))] dX6_bars_166 (by decide) rfl rfl ?_
  refine g_aload_n hC 1 169 rfl dX6_bars_168 rfl rfl ?_
  refine g_getA hC 172 inX6 rfl 0 (by decide) gw_527 rfl tb_MD rfl dX6_bars_169 rfl ?_
  refine g_iload_n hC 2 173 rfl dX6_bars_172 rfl rfl ?_
  refine g_iald hC 174 tb_MD_1 (by decide) dX6_bars_173 rfl (fun x6 => ?_)
  refine g_iload hC 7 176 rfl dX6_bars_174 rfl ?_
  refine g_iadd hC 177 dX6_bars_176 rfl ?_
  refine g_bipush hC 179 dX6_bars_177 rfl (by decide +kernel) ?_
  refine g_icmp_gt hC 197 182 dX6_bars_179 rfl rfl ?_ ?_
  · refine g_lv [1, 2, 3, 4, 5, 6, 7, 0] rfl ?_
    exact wk_X6_bars_J197 hC hr hk _ _ _ _ _ _ _ _
  · refine g_iload hC 0 184 rfl dX6_bars_182 rfl ?_
    refine g_if_eq hC 202 187 dX6_bars_184 rfl rfl ?_ ?_
    · refine g_iconst hC 203 dX6_bars_202 rfl ?_
      exact g_ireturn hC hr hk dX6_bars_203
    · refine g_aload_n hC 1 188 rfl dX6_bars_187 rfl rfl ?_
      refine g_getA hC 191 inX6 rfl 5 (by decide) gw_532 rfl tb_MD rfl dX6_bars_188 rfl ?_
      refine g_iload_n hC 2 192 rfl dX6_bars_191 rfl rfl ?_
      refine g_iald hC 193 tb_MD_6 (by decide) dX6_bars_192 rfl (fun x7 => ?_)
      refine g_iconst hC 194 dX6_bars_193 rfl ?_
      refine g_icmp_ne hC 202 197 dX6_bars_194 rfl rfl ?_ ?_
      · refine g_iconst hC 203 dX6_bars_202 rfl ?_
        exact g_ireturn hC hr hk dX6_bars_203
      · refine g_lv [1, 2, 3, 4, 5, 6, 7, 0] rfl ?_
        exact wk_X6_bars_J197 hC hr hk _ _ _ _ _ _ _ _
def dn_X6_bars_J165  (a1 a2 a3 a4 a5 a6 : Int) (M : fMem) : fOp :=
  dn_X6_bars_J166 a1 a2 a3 a4 a5 a6 0 M
set_option maxRecDepth 100000 in
set_option maxHeartbeats 4000000 in
theorem wk_X6_bars_J165 {l : Launch} {p : Program} {e : Env} {s : State} {m : MethodId} {args : Array Value} {below : List Frame} {meth : Method} {c : Code} {D : va_G} {aC : Nat → ClassId} {ad : Nat → Nat} (hC : fCx p s m args c vwCl D aC TB ad (fFr ad TB) goodTs cX6_bars RX6 8) (hr : meth.sig.returnType = some .int) (hk : meth.locks = false) (a1 a2 a3 a4 a5 a6 : Int)  (M : fMem) : GM l p e s m args below meth c D aC ad 8 3 69 0 165 [(0, .ref (ad 115)), (1, .int (fI a1)), (2, .int (fI a2)), (3, .int (fI a3)), (4, .int (fI a4)), (5, .int (fI a5)), (6, .int (fI a6))] [] M (dn_X6_bars_J165 a1 a2 a3 a4 a5 a6 M) := by
  unfold dn_X6_bars_J165
  refine g_iconst hC 166 dX6_bars_165 rfl ?_
  exact wk_X6_bars_J166 hC hr hk _ _ _ _ _ _ _ _
def dn_X6_bars_J139  (a1 a2 a3 a4 a5 as0 : Int) (M : fMem) : fOp :=
  fLt a4 0 (dn_X6_bars_J165 a1 a2 a3 a4 a5 as0 M) (fRd M 127 20 ((5 * a1) + a4) (fun x8 => fEq x8 (-1) (dn_X6_bars_J166 a1 a2 a3 a4 a5 as0 1 M) (dn_X6_bars_J165 a1 a2 a3 a4 a5 as0 M)))
set_option maxRecDepth 100000 in
set_option maxHeartbeats 4000000 in
theorem wk_X6_bars_J139 {l : Launch} {p : Program} {e : Env} {s : State} {m : MethodId} {args : Array Value} {below : List Frame} {meth : Method} {c : Code} {D : va_G} {aC : Nat → ClassId} {ad : Nat → Nat} (hC : fCx p s m args c vwCl D aC TB ad (fFr ad TB) goodTs cX6_bars RX6 8) (hr : meth.sig.returnType = some .int) (hk : meth.locks = false) (a1 a2 a3 a4 a5 as0 : Int)  (M : fMem) : GM l p e s m args below meth c D aC ad 8 3 69 0 139 [(0, .ref (ad 115)), (1, .int (fI a1)), (2, .int (fI a2)), (3, .int (fI a3)), (4, .int (fI a4)), (5, .int (fI a5))] [.int (fI as0)] M (dn_X6_bars_J139 a1 a2 a3 a4 a5 as0 M) := by
  unfold dn_X6_bars_J139
  refine g_istore hC 141 [(6, .int (fI as0)), (0, .ref (ad 115)), (1, .int (fI a1)), (2, .int (fI a2)), (3, .int (fI a3)), (4, .int (fI a4)), (5, .int (fI a5))] dX6_bars_139 (by decide) rfl rfl ?_
  refine g_iload hC 5 143 rfl dX6_bars_141 rfl ?_
  refine g_if_lt hC 165 146 dX6_bars_143 rfl rfl ?_ ?_
  · refine g_lv [1, 2, 3, 4, 5, 6, 0] rfl ?_
    exact wk_X6_bars_J165 hC hr hk _ _ _ _ _ _ _
  · refine g_aload_n hC 1 147 rfl dX6_bars_146 rfl rfl ?_
    refine g_getA hC 150 inX6 rfl 11 (by decide) gw_538 rfl tb_MD rfl dX6_bars_147 rfl ?_
    refine g_iconst hC 151 dX6_bars_150 rfl ?_
    refine g_iload_n hC 2 152 rfl dX6_bars_151 rfl rfl ?_
    refine g_imul hC 153 dX6_bars_152 rfl ?_
    refine g_iload hC 5 155 rfl dX6_bars_153 rfl ?_
    refine g_iadd hC 156 dX6_bars_155 rfl ?_
    refine g_iald hC 157 tb_MD_12 (by decide) dX6_bars_156 rfl (fun x8 => ?_)
    refine g_iconst hC 158 dX6_bars_157 rfl ?_
    refine g_icmp_ne hC 165 161 dX6_bars_158 rfl rfl ?_ ?_
    · refine g_lv [1, 2, 3, 4, 5, 6, 0] rfl ?_
      exact wk_X6_bars_J165 hC hr hk _ _ _ _ _ _ _
    · refine g_iconst hC 162 dX6_bars_161 rfl ?_
      refine g_goto hC 166 dX6_bars_162 rfl ?_
      refine g_lv [1, 2, 3, 4, 5, 6, 0] rfl ?_
      exact wk_X6_bars_J166 hC hr hk _ _ _ _ _ _ _ _
def dn_X6_bars_J138  (a1 a2 a3 a4 a5 : Int) (M : fMem) : fOp :=
  dn_X6_bars_J139 a1 a2 a3 a4 a5 1 M
set_option maxRecDepth 100000 in
set_option maxHeartbeats 4000000 in
theorem wk_X6_bars_J138 {l : Launch} {p : Program} {e : Env} {s : State} {m : MethodId} {args : Array Value} {below : List Frame} {meth : Method} {c : Code} {D : va_G} {aC : Nat → ClassId} {ad : Nat → Nat} (hC : fCx p s m args c vwCl D aC TB ad (fFr ad TB) goodTs cX6_bars RX6 8) (hr : meth.sig.returnType = some .int) (hk : meth.locks = false) (a1 a2 a3 a4 a5 : Int)  (M : fMem) : GM l p e s m args below meth c D aC ad 8 3 69 0 138 [(0, .ref (ad 115)), (1, .int (fI a1)), (2, .int (fI a2)), (3, .int (fI a3)), (4, .int (fI a4)), (5, .int (fI a5))] [] M (dn_X6_bars_J138 a1 a2 a3 a4 a5 M) := by
  unfold dn_X6_bars_J138
  refine g_iconst hC 139 dX6_bars_138 rfl ?_
  exact wk_X6_bars_J139 hC hr hk _ _ _ _ _ _ _
def dn_X6_bars_J120  (a1 a2 a3 a4 a5 : Int) (M : fMem) : fOp :=
  fLt a4 0 (dn_X6_bars_J138 a1 a2 a3 a4 a5 M) (fRd M 116 4 a1 (fun x9 => fEq x9 0 (dn_X6_bars_J139 a1 a2 a3 a4 a5 2 M) (dn_X6_bars_J138 a1 a2 a3 a4 a5 M)))
set_option maxRecDepth 100000 in
set_option maxHeartbeats 4000000 in
theorem wk_X6_bars_J120 {l : Launch} {p : Program} {e : Env} {s : State} {m : MethodId} {args : Array Value} {below : List Frame} {meth : Method} {c : Code} {D : va_G} {aC : Nat → ClassId} {ad : Nat → Nat} (hC : fCx p s m args c vwCl D aC TB ad (fFr ad TB) goodTs cX6_bars RX6 8) (hr : meth.sig.returnType = some .int) (hk : meth.locks = false) (a1 a2 a3 a4 a5 : Int)  (M : fMem) : GM l p e s m args below meth c D aC ad 8 3 69 0 120 [(0, .ref (ad 115)), (1, .int (fI a1)), (2, .int (fI a2)), (3, .int (fI a3)), (4, .int (fI a4)), (5, .int (fI a5))] [] M (dn_X6_bars_J120 a1 a2 a3 a4 a5 M) := by
  unfold dn_X6_bars_J120
  refine g_iload hC 4 122 rfl dX6_bars_120 rfl ?_
  refine g_if_lt hC 138 125 dX6_bars_122 rfl rfl ?_ ?_
  · exact wk_X6_bars_J138 hC hr hk _ _ _ _ _ _
  · refine g_aload_n hC 0 126 rfl dX6_bars_125 rfl rfl ?_
    refine g_getA hC 129 inX6 rfl 0 (by decide) gw_527 rfl tb_MD rfl dX6_bars_126 rfl ?_
    refine g_iload_n hC 1 130 rfl dX6_bars_129 rfl rfl ?_
    refine g_iald hC 131 tb_MD_1 (by decide) dX6_bars_130 rfl (fun x9 => ?_)
    refine g_if_ne hC 138 134 dX6_bars_131 rfl rfl ?_ ?_
    · exact wk_X6_bars_J138 hC hr hk _ _ _ _ _ _
    · refine g_iconst hC 135 dX6_bars_134 rfl ?_
      refine g_goto hC 139 dX6_bars_135 rfl ?_
      exact wk_X6_bars_J139 hC hr hk _ _ _ _ _ _ _
def dn_X6_bars_J96  (a1 a2 a3 a4 a5 : Int) (M : fMem) : fOp :=
  fRd M 129 12 a2 (fun x5 => fEq x5 0 (fRd M 130 12 a2 (fun x10 => fCl (dn_X6_hasMarks x10 M) (fun v11 M12 => fEq v11 0 (dn_X6_bars_J120 a1 a2 a3 a4 a5 M12) (some ((-6), M12))))) (dn_X6_bars_J120 a1 a2 a3 a4 a5 M))
set_option maxRecDepth 100000 in
set_option maxHeartbeats 4000000 in
theorem wk_X6_bars_J96 {l : Launch} {p : Program} {e : Env} {s : State} {m : MethodId} {args : Array Value} {below : List Frame} {meth : Method} {c : Code} {D : va_G} {aC : Nat → ClassId} {ad : Nat → Nat} (hC : fCx p s m args c vwCl D aC TB ad (fFr ad TB) goodTs cX6_bars RX6 8) (hr : meth.sig.returnType = some .int) (hk : meth.locks = false) (a1 a2 a3 a4 a5 : Int)  (M : fMem) : GM l p e s m args below meth c D aC ad 8 3 69 0 96 [(0, .ref (ad 115)), (1, .int (fI a1)), (2, .int (fI a2)), (3, .int (fI a3)), (4, .int (fI a4)), (5, .int (fI a5))] [] M (dn_X6_bars_J96 a1 a2 a3 a4 a5 M) := by
  unfold dn_X6_bars_J96
  refine g_aload_n hC 0 97 rfl dX6_bars_96 rfl rfl ?_
  refine g_getA hC 100 inX6 rfl 13 (by decide) gw_540 rfl tb_MD rfl dX6_bars_97 rfl ?_
  refine g_iload_n hC 2 101 rfl dX6_bars_100 rfl rfl ?_
  refine g_zald hC 102 tb_MD_14 (by decide) dX6_bars_101 rfl (fun x5 => ?_)
  refine g_if_ne hC 120 105 dX6_bars_102 rfl rfl ?_ ?_
  · exact wk_X6_bars_J120 hC hr hk _ _ _ _ _ _
  · refine g_aload_n hC 0 106 rfl dX6_bars_105 rfl rfl ?_
    refine g_getA hC 109 inX6 rfl 14 (by decide) gw_541 rfl tb_MD rfl dX6_bars_106 rfl ?_
    refine g_iload_n hC 2 110 rfl dX6_bars_109 rfl rfl ?_
    refine g_lald hC 111 tb_MD_15 (by decide) dX6_bars_110 rfl (fun x10 => ?_)
    refine g_cS hC 114 1 [.long (fL x10)] [] (cn_X6_hasMarks l x10 _) rfl rfl gw_615 gw_617 gw_65 gw_616 (by decide +kernel) rfl ⟨Nat.le_of_ble_eq_true rfl, Nat.le_of_ble_eq_true rfl⟩ (Nat.le_of_ble_eq_true rfl) ⟨Nat.zero_le _, Nat.zero_le _⟩ dX6_bars_111 rfl (fun v11 => .int (fI v11) :: []) (fun _ => rfl) (fun v11 M12 => ?_)
    refine g_if_eq hC 120 117 dX6_bars_114 rfl rfl ?_ ?_
    · exact wk_X6_bars_J120 hC hr hk _ _ _ _ _ _
    · refine g_bipush hC 119 dX6_bars_117 rfl (by decide +kernel) ?_
      exact g_ireturn hC hr hk dX6_bars_119
def dn_X6_bars_J71  (a1 a2 a3 a4 a5 : Int) (M : fMem) : fOp :=
  fLt a3 0 (dn_X6_bars_J96 a1 a2 a3 a4 a5 M) (fRd M 129 12 a2 (fun x13 => fEq x13 0 (fCl (dn_X6_modified a1 a2 M) (fun v14 M15 => fEq v14 0 (some ((-5), M15)) (dn_X6_bars_J96 a1 a2 a3 a4 a5 M15))) (dn_X6_bars_J96 a1 a2 a3 a4 a5 M)))
set_option maxRecDepth 100000 in
set_option maxHeartbeats 4000000 in
theorem wk_X6_bars_J71 {l : Launch} {p : Program} {e : Env} {s : State} {m : MethodId} {args : Array Value} {below : List Frame} {meth : Method} {c : Code} {D : va_G} {aC : Nat → ClassId} {ad : Nat → Nat} (hC : fCx p s m args c vwCl D aC TB ad (fFr ad TB) goodTs cX6_bars RX6 8) (hr : meth.sig.returnType = some .int) (hk : meth.locks = false) (a1 a2 a3 a4 a5 : Int)  (M : fMem) : GM l p e s m args below meth c D aC ad 8 3 69 0 71 [(0, .ref (ad 115)), (1, .int (fI a1)), (2, .int (fI a2)), (3, .int (fI a3)), (4, .int (fI a4)), (5, .int (fI a5))] [] M (dn_X6_bars_J71 a1 a2 a3 a4 a5 M) := by
  unfold dn_X6_bars_J71
  refine g_iload_n hC 3 72 rfl dX6_bars_71 rfl rfl ?_
  refine g_if_lt hC 96 75 dX6_bars_72 rfl rfl ?_ ?_
  · exact wk_X6_bars_J96 hC hr hk _ _ _ _ _ _
  · refine g_aload_n hC 0 76 rfl dX6_bars_75 rfl rfl ?_
    refine g_getA hC 79 inX6 rfl 13 (by decide) gw_540 rfl tb_MD rfl dX6_bars_76 rfl ?_
    refine g_iload_n hC 2 80 rfl dX6_bars_79 rfl rfl ?_
    refine g_zald hC 81 tb_MD_14 (by decide) dX6_bars_80 rfl (fun x13 => ?_)
    refine g_if_ne hC 96 84 dX6_bars_81 rfl rfl ?_ ?_
    · exact wk_X6_bars_J96 hC hr hk _ _ _ _ _ _
    · refine g_aload_n hC 0 85 rfl dX6_bars_84 rfl rfl ?_
      refine g_iload_n hC 1 86 rfl dX6_bars_85 rfl rfl ?_
      refine g_iload_n hC 2 87 rfl dX6_bars_86 rfl rfl ?_
      refine g_cV hC 90 2 [.int (fI a1), .int (fI a2)] [] (cn_X6_modified l a1 a2 _) rfl rfl tb_MD rfl gw_650 gw_653 gw_65 gw_652 gw_41 (by decide +kernel) rfl ⟨Nat.le_of_ble_eq_true rfl, Nat.le_of_ble_eq_true rfl⟩ (Nat.le_of_ble_eq_true rfl) ⟨Nat.zero_le _, Nat.zero_le _⟩ dX6_bars_87 rfl (fun v14 => .int (fI v14) :: []) (fun _ => rfl) (fun v14 M15 => ?_)
      refine g_if_ne hC 96 93 dX6_bars_90 rfl rfl ?_ ?_
      · exact wk_X6_bars_J96 hC hr hk _ _ _ _ _ _
      · refine g_bipush hC 95 dX6_bars_93 rfl (by decide +kernel) ?_
        exact g_ireturn hC hr hk dX6_bars_95
def dn_X6_bars_J43  (a1 a2 a3 a4 a5 : Int) (M : fMem) : fOp :=
  fEq a3 (-2) (fCl (dn_X6_noneOrDead a1 a5 M) (fun v16 M17 => fEq v16 0 (some ((-4), M17)) (dn_X6_bars_J71 a1 a2 a3 a4 a5 M17))) (fEq a3 a5 (dn_X6_bars_J71 a1 a2 a3 a4 a5 M) (some ((-4), M)))
set_option maxRecDepth 100000 in
set_option maxHeartbeats 4000000 in
theorem wk_X6_bars_J43 {l : Launch} {p : Program} {e : Env} {s : State} {m : MethodId} {args : Array Value} {below : List Frame} {meth : Method} {c : Code} {D : va_G} {aC : Nat → ClassId} {ad : Nat → Nat} (hC : fCx p s m args c vwCl D aC TB ad (fFr ad TB) goodTs cX6_bars RX6 8) (hr : meth.sig.returnType = some .int) (hk : meth.locks = false) (a1 a2 a3 a4 a5 : Int)  (M : fMem) : GM l p e s m args below meth c D aC ad 8 3 69 0 43 [(0, .ref (ad 115)), (1, .int (fI a1)), (2, .int (fI a2)), (3, .int (fI a3)), (4, .int (fI a4)), (5, .int (fI a5))] [] M (dn_X6_bars_J43 a1 a2 a3 a4 a5 M) := by
  unfold dn_X6_bars_J43
  refine g_iload_n hC 3 44 rfl dX6_bars_43 rfl rfl ?_
  refine g_bipush hC 46 dX6_bars_44 rfl (by decide +kernel) ?_
  refine g_icmp_ne hC 62 49 dX6_bars_46 rfl rfl ?_ ?_
  · refine g_iload_n hC 3 63 rfl dX6_bars_62 rfl rfl ?_
    refine g_iload hC 5 65 rfl dX6_bars_63 rfl ?_
    refine g_icmp_eq hC 71 68 dX6_bars_65 rfl rfl ?_ ?_
    · exact wk_X6_bars_J71 hC hr hk _ _ _ _ _ _
    · refine g_bipush hC 70 dX6_bars_68 rfl (by decide +kernel) ?_
      exact g_ireturn hC hr hk dX6_bars_70
  · refine g_aload_n hC 0 50 rfl dX6_bars_49 rfl rfl ?_
    refine g_iload_n hC 1 51 rfl dX6_bars_50 rfl rfl ?_
    refine g_iload hC 5 53 rfl dX6_bars_51 rfl ?_
    refine g_cV hC 56 2 [.int (fI a1), .int (fI a5)] [] (cn_X6_noneOrDead l a1 a5 _) rfl rfl tb_MD rfl gw_646 gw_649 gw_65 gw_648 gw_40 (by decide +kernel) rfl ⟨Nat.le_of_ble_eq_true rfl, Nat.le_of_ble_eq_true rfl⟩ (Nat.le_of_ble_eq_true rfl) ⟨Nat.zero_le _, Nat.zero_le _⟩ dX6_bars_53 rfl (fun v16 => .int (fI v16) :: []) (fun _ => rfl) (fun v16 M17 => ?_)
    refine g_if_ne hC 71 59 dX6_bars_56 rfl rfl ?_ ?_
    · exact wk_X6_bars_J71 hC hr hk _ _ _ _ _ _
    · refine g_goto hC 68 dX6_bars_59 rfl ?_
      refine g_bipush hC 70 dX6_bars_68 rfl (by decide +kernel) ?_
      exact g_ireturn hC hr hk dX6_bars_70
def dn_X6_bars (a1 : Int) (a2 : Int) (M : fMem) : fOp :=
  fRd M 128 12 a2 (fun x1 => fRd M 131 12 a2 (fun x2 => fCl (dn_X6_selectedBy a1 x2 M) (fun v3 M4 => fLt x2 0 (dn_X6_bars_J43 a1 a2 x1 x2 v3 M4) (fRd M4 126 5 x2 (fun x18 => fEq x18 1 (some ((-3), M4)) (dn_X6_bars_J43 a1 a2 x1 x2 v3 M4))))))
set_option maxRecDepth 100000 in
set_option maxHeartbeats 4000000 in
theorem wk_X6_bars {l : Launch} {p : Program} {e : Env} {s : State} {m : MethodId} {args : Array Value} {below : List Frame} {meth : Method} {c : Code} {D : va_G} {aC : Nat → ClassId} {ad : Nat → Nat} (hC : fCx p s m args c vwCl D aC TB ad (fFr ad TB) goodTs cX6_bars RX6 8) (hr : meth.sig.returnType = some .int) (hk : meth.locks = false) (a1 : Int) (a2 : Int) (M : fMem) : GM l p e s m args below meth c D aC ad 8 3 69 0 0 [(0, .ref (ad 115)), (1, .int (fI a1)), (2, .int (fI a2))] [] M (dn_X6_bars a1 a2 M) := by
  unfold dn_X6_bars
  refine g_aload_n hC 0 1 rfl dX6_bars_0 rfl rfl ?_
  refine g_getA hC 4 inX6 rfl 12 (by decide) gw_539 rfl tb_MD rfl dX6_bars_1 rfl ?_
  refine g_iload_n hC 2 5 rfl dX6_bars_4 rfl rfl ?_
  refine g_iald hC 6 tb_MD_13 (by decide) dX6_bars_5 rfl (fun x1 => ?_)
  refine g_istore_n hC 7 [(3, .int (fI x1)), (0, .ref (ad 115)), (1, .int (fI a1)), (2, .int (fI a2))] dX6_bars_6 rfl (by decide) rfl rfl ?_
  refine g_aload_n hC 1 8 rfl dX6_bars_7 rfl rfl ?_
  refine g_getA hC 11 inX6 rfl 15 (by decide) gw_542 rfl tb_MD rfl dX6_bars_8 rfl ?_
  refine g_iload_n hC 3 12 rfl dX6_bars_11 rfl rfl ?_
  refine g_iald hC 13 tb_MD_16 (by decide) dX6_bars_12 rfl (fun x2 => ?_)
  refine g_istore hC 15 [(4, .int (fI x2)), (3, .int (fI x1)), (0, .ref (ad 115)), (1, .int (fI a1)), (2, .int (fI a2))] dX6_bars_13 (by decide) rfl rfl ?_
  refine g_aload_n hC 2 16 rfl dX6_bars_15 rfl rfl ?_
  refine g_iload_n hC 3 17 rfl dX6_bars_16 rfl rfl ?_
  refine g_iload hC 0 19 rfl dX6_bars_17 rfl ?_
  refine g_cV hC 22 2 [.int (fI a1), .int (fI x2)] [] (cn_X6_selectedBy l a1 x2 _) rfl rfl tb_MD rfl gw_638 gw_641 gw_65 gw_640 gw_38 (by decide +kernel) rfl ⟨Nat.le_of_ble_eq_true rfl, Nat.le_of_ble_eq_true rfl⟩ (Nat.le_of_ble_eq_true rfl) ⟨Nat.zero_le _, Nat.zero_le _⟩ dX6_bars_19 rfl (fun v3 => .int (fI v3) :: []) (fun _ => rfl) (fun v3 M4 => ?_)
  refine g_istore hC 24 [(5, .int (fI v3)), (4, .int (fI x2)), (3, .int (fI x1)), (0, .ref (ad 115)), (1, .int (fI a1)), (2, .int (fI a2))] dX6_bars_22 (by decide) rfl rfl ?_
  refine g_iload hC 1 26 rfl dX6_bars_24 rfl ?_
  refine g_if_lt hC 43 29 dX6_bars_26 rfl rfl ?_ ?_
  · refine g_lv [3, 4, 5, 2, 1, 0] rfl ?_
    exact wk_X6_bars_J43 hC hr hk _ _ _ _ _ _
  · refine g_aload_n hC 3 30 rfl dX6_bars_29 rfl rfl ?_
    refine g_getA hC 33 inX6 rfl 10 (by decide) gw_537 rfl tb_MD rfl dX6_bars_30 rfl ?_
    refine g_iload hC 1 35 rfl dX6_bars_33 rfl ?_
    refine g_iald hC 36 tb_MD_11 (by decide) dX6_bars_35 rfl (fun x18 => ?_)
    refine g_iconst hC 37 dX6_bars_36 rfl ?_
    refine g_icmp_ne hC 43 40 dX6_bars_37 rfl rfl ?_ ?_
    · refine g_lv [3, 4, 5, 2, 1, 0] rfl ?_
      exact wk_X6_bars_J43 hC hr hk _ _ _ _ _ _
    · refine g_bipush hC 42 dX6_bars_40 rfl (by decide +kernel) ?_
      exact g_ireturn hC hr hk dX6_bars_42
theorem cn_X6_bars (l : Launch) (a1 : Int) (a2 : Int) (M : fMem) : fMt l vwCl TB yX6_bars cX6_bars 8 (some .int) 3 69 0 (fun ad => [.ref (ad 115), .int (fI a1), .int (fI a2)]) M (dn_X6_bars a1 a2 M) :=
  fMt.of (by decide +kernel) (fun _ => Nat.le_of_ble_eq_true rfl) (fun p e s m args below meth c D aC ad hC hr hk => wk_X6_bars hC hr hk a1 a2 M)
def dn_X6_revise_J75  (a1 a2 a3 a5 a6 a7 as0 as1 : Int) (M : fMem) : fOp :=
  fWr M 120 96 as1 as0 (fun M8 => fRd M8 116 4 a1 (fun x9 => fWr M8 116 4 a1 (x9 + 1) (fun M10 => fRd M10 116 4 a1 (fun x11 => some (x11 - 1, M10)))))
set_option maxRecDepth 100000 in
set_option maxHeartbeats 4000000 in
theorem wk_X6_revise_J75 {l : Launch} {p : Program} {e : Env} {s : State} {m : MethodId} {args : Array Value} {below : List Frame} {meth : Method} {c : Code} {D : va_G} {aC : Nat → ClassId} {ad : Nat → Nat} (hC : fCx p s m args c vwCl D aC TB ad (fFr ad TB) goodTs cX6_revise RX6 8) (hr : meth.sig.returnType = some .int) (hk : meth.locks = false) (a1 a2 a3 a5 a6 a7 as0 as1 : Int)  (M : fMem) : GM l p e s m args below meth c D aC ad 8 1 24 0 75 [(0, .ref (ad 115)), (1, .int (fI a1)), (2, .int (fI a2)), (3, .long (fL a3)), (5, .int (fI a5)), (6, .int (fI a6)), (7, .int (fI a7))] [.int (fI as0), .int (fI as1), .ref (ad 120)] M (dn_X6_revise_J75 a1 a2 a3 a5 a6 a7 as0 as1 M) := by
  unfold dn_X6_revise_J75
  refine g_iast hC 76 tb_MD_5 (by decide) dX6_revise_75 rfl (fun M8 => ?_)
  refine g_aload_n hC 0 77 rfl dX6_revise_76 rfl rfl ?_
  refine g_getA hC 80 inX6 rfl 0 (by decide) gw_527 rfl tb_MD rfl dX6_revise_77 rfl ?_
  refine g_iload_n hC 1 81 rfl dX6_revise_80 rfl rfl ?_
  refine g_dup2 hC 82 dX6_revise_81 rfl rfl rfl ?_
  refine g_iald hC 83 tb_MD_1 (by decide) dX6_revise_82 rfl (fun x9 => ?_)
  refine g_iconst hC 84 dX6_revise_83 rfl ?_
  refine g_iadd hC 85 dX6_revise_84 rfl ?_
  refine g_iast hC 86 tb_MD_1 (by decide) dX6_revise_85 rfl (fun M10 => ?_)
  refine g_aload_n hC 0 87 rfl dX6_revise_86 rfl rfl ?_
  refine g_getA hC 90 inX6 rfl 0 (by decide) gw_527 rfl tb_MD rfl dX6_revise_87 rfl ?_
  refine g_iload_n hC 1 91 rfl dX6_revise_90 rfl rfl ?_
  refine g_iald hC 92 tb_MD_1 (by decide) dX6_revise_91 rfl (fun x11 => ?_)
  refine g_iconst hC 93 dX6_revise_92 rfl ?_
  refine g_isub hC 94 dX6_revise_93 rfl ?_
  exact g_ireturn hC hr hk dX6_revise_94
def dn_X6_revise (a1 : Int) (a2 : Int) (a3 : Int) (a5 : Int) (M : fMem) : fOp :=
  fCl (dn_X6_last a1 a2 M) (fun v1 M2 => fRd M2 116 4 a1 (fun x3 => fWr M2 117 96 ((24 * a1) + x3) a3 (fun M4 => fWz M4 118 96 ((24 * a1) + x3) a5 (fun M5 => fWr M5 119 96 ((24 * a1) + x3) a2 (fun M6 => fLe 0 v1 (fRd M6 120 96 ((24 * a1) + v1) (fun x7 => dn_X6_revise_J75 a1 a2 a3 a5 v1 ((24 * a1) + x3) (x7 + 1) ((24 * a1) + x3) M6)) (dn_X6_revise_J75 a1 a2 a3 a5 v1 ((24 * a1) + x3) 1 ((24 * a1) + x3) M6))))))
set_option maxRecDepth 100000 in
set_option maxHeartbeats 4000000 in
theorem wk_X6_revise {l : Launch} {p : Program} {e : Env} {s : State} {m : MethodId} {args : Array Value} {below : List Frame} {meth : Method} {c : Code} {D : va_G} {aC : Nat → ClassId} {ad : Nat → Nat} (hC : fCx p s m args c vwCl D aC TB ad (fFr ad TB) goodTs cX6_revise RX6 8) (hr : meth.sig.returnType = some .int) (hk : meth.locks = false) (a1 : Int) (a2 : Int) (a3 : Int) (a5 : Int) (M : fMem) : GM l p e s m args below meth c D aC ad 8 1 24 0 0 [(0, .ref (ad 115)), (1, .int (fI a1)), (2, .int (fI a2)), (3, .long (fL a3)), (5, .int (fI a5))] [] M (dn_X6_revise a1 a2 a3 a5 M) := by
  unfold dn_X6_revise
  refine g_aload_n hC 0 1 rfl dX6_revise_0 rfl rfl ?_
  refine g_iload_n hC 1 2 rfl dX6_revise_1 rfl rfl ?_
  refine g_iload_n hC 2 3 rfl dX6_revise_2 rfl rfl ?_
  refine g_cV hC 6 2 [.int (fI a1), .int (fI a2)] [] (cn_X6_last l a1 a2 _) rfl rfl tb_MD rfl gw_642 gw_645 gw_65 gw_644 gw_39 (by decide +kernel) rfl ⟨Nat.le_of_ble_eq_true rfl, Nat.le_of_ble_eq_true rfl⟩ (Nat.le_of_ble_eq_true rfl) ⟨Nat.zero_le _, Nat.zero_le _⟩ dX6_revise_3 rfl (fun v1 => .int (fI v1) :: []) (fun _ => rfl) (fun v1 M2 => ?_)
  refine g_istore hC 8 [(6, .int (fI v1)), (0, .ref (ad 115)), (1, .int (fI a1)), (2, .int (fI a2)), (3, .long (fL a3)), (5, .int (fI a5))] dX6_revise_6 (by decide) rfl rfl ?_
  refine g_bipush hC 10 dX6_revise_8 rfl (by decide +kernel) ?_
  refine g_iload_n hC 2 11 rfl dX6_revise_10 rfl rfl ?_
  refine g_imul hC 12 dX6_revise_11 rfl ?_
  refine g_aload_n hC 1 13 rfl dX6_revise_12 rfl rfl ?_
  refine g_getA hC 16 inX6 rfl 0 (by decide) gw_527 rfl tb_MD rfl dX6_revise_13 rfl ?_
  refine g_iload_n hC 2 17 rfl dX6_revise_16 rfl rfl ?_
  refine g_iald hC 18 tb_MD_1 (by decide) dX6_revise_17 rfl (fun x3 => ?_)
  refine g_iadd hC 19 dX6_revise_18 rfl ?_
  refine g_istore hC 21 [(7, .int (fI ((24 * a1) + x3))), (6, .int (fI v1)), (0, .ref (ad 115)), (1, .int (fI a1)), (2, .int (fI a2)), (3, .long (fL a3)), (5, .int (fI a5))] dX6_revise_19 (by decide) rfl rfl ?_
  refine g_aload_n hC 2 22 rfl dX6_revise_21 rfl rfl ?_
  refine g_getA hC 25 inX6 rfl 1 (by decide) gw_528 rfl tb_MD rfl dX6_revise_22 rfl ?_
  refine g_iload hC 0 27 rfl dX6_revise_25 rfl ?_
  refine g_lload_n hC 5 28 rfl dX6_revise_27 rfl rfl ?_
  refine g_last hC 29 tb_MD_2 (by decide) dX6_revise_28 rfl (fun M4 => ?_)
  refine g_aload_n hC 2 30 rfl dX6_revise_29 rfl rfl ?_
  refine g_getA hC 33 inX6 rfl 2 (by decide) gw_529 rfl tb_MD rfl dX6_revise_30 rfl ?_
  refine g_iload hC 0 35 rfl dX6_revise_33 rfl ?_
  refine g_iload hC 6 37 rfl dX6_revise_35 rfl ?_
  refine g_zast hC 38 tb_MD_3 (by decide) dX6_revise_37 rfl (fun M5 => ?_)
  refine g_aload_n hC 2 39 rfl dX6_revise_38 rfl rfl ?_
  refine g_getA hC 42 inX6 rfl 3 (by decide) gw_530 rfl tb_MD rfl dX6_revise_39 rfl ?_
  refine g_iload hC 0 44 rfl dX6_revise_42 rfl ?_
  refine g_iload_n hC 4 45 rfl dX6_revise_44 rfl rfl ?_
  refine g_iast hC 46 tb_MD_4 (by decide) dX6_revise_45 rfl (fun M6 => ?_)
  refine g_aload_n hC 2 47 rfl dX6_revise_46 rfl rfl ?_
  refine g_getA hC 50 inX6 rfl 4 (by decide) gw_531 rfl tb_MD rfl dX6_revise_47 rfl ?_
  refine g_iload hC 0 52 rfl dX6_revise_50 rfl ?_
  refine g_iload hC 1 54 rfl dX6_revise_52 rfl ?_
  refine g_if_ge hC 61 57 dX6_revise_54 rfl rfl ?_ ?_
  · refine g_aload_n hC 2 62 rfl dX6_revise_61 rfl rfl ?_
    refine g_getA hC 65 inX6 rfl 4 (by decide) gw_531 rfl tb_MD rfl dX6_revise_62 rfl ?_
    refine g_bipush hC 67 dX6_revise_65 rfl (by decide +kernel) ?_
    refine g_iload_n hC 3 68 rfl dX6_revise_67 rfl rfl ?_
    refine g_imul hC 69 dX6_revise_68 rfl ?_
    refine g_iload hC 1 71 rfl dX6_revise_69 rfl ?_
    refine g_iadd hC 72 dX6_revise_71 rfl ?_
    refine g_iald hC 73 tb_MD_5 (by decide) dX6_revise_72 rfl (fun x7 => ?_)
    refine g_iconst hC 74 dX6_revise_73 rfl ?_
    refine g_iadd hC 75 dX6_revise_74 rfl ?_
    refine g_lv [2, 3, 4, 5, 6, 1, 0] rfl ?_
    exact wk_X6_revise_J75 hC hr hk _ _ _ _ _ _ _ _ _
  · refine g_iconst hC 58 dX6_revise_57 rfl ?_
    refine g_goto hC 75 dX6_revise_58 rfl ?_
    refine g_lv [2, 3, 4, 5, 6, 1, 0] rfl ?_
    exact wk_X6_revise_J75 hC hr hk _ _ _ _ _ _ _ _ _
theorem cn_X6_revise (l : Launch) (a1 : Int) (a2 : Int) (a3 : Int) (a5 : Int) (M : fMem) : fMt l vwCl TB yX6_revise cX6_revise 8 (some .int) 1 24 0 (fun ad => [.ref (ad 115), .int (fI a1), .int (fI a2), .long (fL a3), .int (fI a5)]) M (dn_X6_revise a1 a2 a3 a5 M) :=
  fMt.of (by decide +kernel) (fun _ => Nat.le_of_ble_eq_true rfl) (fun p e s m args below meth c D aC ad hC hr hk => wk_X6_revise hC hr hk a1 a2 a3 a5 M)
def dn_X6_freeMagic_J65  (r : Int → Int → fMem → fOp) (x72 : Int → Int → fMem → fOp) (a1 a2 a3 a4 a5 as0 : Int) (M : fMem) : fOp :=
  r as0 (a5 + 1) M
set_option maxRecDepth 100000 in
set_option maxHeartbeats 4000000 in
theorem wk_X6_freeMagic_J65 {l : Launch} {p : Program} {e : Env} {s : State} {m : MethodId} {args : Array Value} {below : List Frame} {meth : Method} {c : Code} {D : va_G} {aC : Nat → ClassId} {ad : Nat → Nat} (hC : fCx p s m args c vwCl D aC TB ad (fFr ad TB) goodTs cX6_freeMagic RX6 6) (hr : meth.sig.returnType = some .int) (hk : meth.locks = false) (a1 a2 a3 a4 a5 as0 : Int)  (r : Int → Int → fMem → fOp) (hrc : ∀ (z3 z5 : Int) (M : fMem), GM l p e s m args below meth c D aC ad 6 0 0 0 15 [(0, .ref (ad 115)), (1, .int (fI a1)), (2, .int (fI a2)), (3, .int (fI z3)), (4, .int (fI a4)), (5, .int (fI z5))] [] M (r z3 z5 M)) (x72 : Int → Int → fMem → fOp) (hx72 : ∀ (y3 y5 : Int) (M : fMem), GM l p e s m args below meth c D aC ad 6 0 0 0 72 [(0, .ref (ad 115)), (1, .int (fI a1)), (2, .int (fI a2)), (3, .int (fI y3)), (4, .int (fI a4)), (5, .int (fI y5))] [] M (x72 y3 y5 M)) (M : fMem) : GM l p e s m args below meth c D aC ad 6 0 0 0 65 [(0, .ref (ad 115)), (1, .int (fI a1)), (2, .int (fI a2)), (3, .int (fI a3)), (4, .int (fI a4)), (5, .int (fI a5))] [.int (fI as0)] M (dn_X6_freeMagic_J65 r x72 a1 a2 a3 a4 a5 as0 M) := by
  unfold dn_X6_freeMagic_J65
  refine g_istore_n hC 66 [(3, .int (fI as0)), (0, .ref (ad 115)), (1, .int (fI a1)), (2, .int (fI a2)), (4, .int (fI a4)), (5, .int (fI a5))] dX6_freeMagic_65 rfl (by decide) rfl rfl ?_
  refine g_iinc hC 5 69 [(5, .int (fI (a5 + 1))), (3, .int (fI as0)), (0, .ref (ad 115)), (1, .int (fI a1)), (2, .int (fI a2)), (4, .int (fI a4))] rfl dX6_freeMagic_66 (by decide) rfl rfl ?_
  refine g_goto hC 15 dX6_freeMagic_69 rfl ?_
  refine g_lv [2, 3, 4, 1, 5, 0] rfl ?_
  exact hrc _ _ _
def dn_X6_freeMagic_J64  (r : Int → Int → fMem → fOp) (x72 : Int → Int → fMem → fOp) (a1 a2 a3 a4 a5 : Int) (M : fMem) : fOp :=
  dn_X6_freeMagic_J65 r x72 a1 a2 a3 a4 a5 a3 M
set_option maxRecDepth 100000 in
set_option maxHeartbeats 4000000 in
theorem wk_X6_freeMagic_J64 {l : Launch} {p : Program} {e : Env} {s : State} {m : MethodId} {args : Array Value} {below : List Frame} {meth : Method} {c : Code} {D : va_G} {aC : Nat → ClassId} {ad : Nat → Nat} (hC : fCx p s m args c vwCl D aC TB ad (fFr ad TB) goodTs cX6_freeMagic RX6 6) (hr : meth.sig.returnType = some .int) (hk : meth.locks = false) (a1 a2 a3 a4 a5 : Int)  (r : Int → Int → fMem → fOp) (hrc : ∀ (z3 z5 : Int) (M : fMem), GM l p e s m args below meth c D aC ad 6 0 0 0 15 [(0, .ref (ad 115)), (1, .int (fI a1)), (2, .int (fI a2)), (3, .int (fI z3)), (4, .int (fI a4)), (5, .int (fI z5))] [] M (r z3 z5 M)) (x72 : Int → Int → fMem → fOp) (hx72 : ∀ (y3 y5 : Int) (M : fMem), GM l p e s m args below meth c D aC ad 6 0 0 0 72 [(0, .ref (ad 115)), (1, .int (fI a1)), (2, .int (fI a2)), (3, .int (fI y3)), (4, .int (fI a4)), (5, .int (fI y5))] [] M (x72 y3 y5 M)) (M : fMem) : GM l p e s m args below meth c D aC ad 6 0 0 0 64 [(0, .ref (ad 115)), (1, .int (fI a1)), (2, .int (fI a2)), (3, .int (fI a3)), (4, .int (fI a4)), (5, .int (fI a5))] [] M (dn_X6_freeMagic_J64 r x72 a1 a2 a3 a4 a5 M) := by
  unfold dn_X6_freeMagic_J64
  refine g_iload_n hC 3 65 rfl dX6_freeMagic_64 rfl rfl ?_
  exact wk_X6_freeMagic_J65 hC hr hk _ _ _ _ _ _ _ hrc _ hx72 _
def dn_X6_freeMagic_L15B  (a1 a2 a4 : Int) (r : Int → Int → fMem → fOp) (x72 : Int → Int → fMem → fOp) (a3 a5 : Int) (M : fMem) : fOp :=
  fRd M 121 4 a1 (fun x1 => fLt x1 a5 (x72 a3 a5 M) (fRd M 122 24 ((6 * a1) + a5) (fun x2 => fEq x2 a2 (fRd M 123 24 ((6 * a1) + a5) (fun x3 => fEq x3 a3 (dn_X6_freeMagic_J65 r x72 a1 a2 a3 a4 a5 (a3 + 2) M) (dn_X6_freeMagic_J64 r x72 a1 a2 a3 a4 a5 M))) (dn_X6_freeMagic_J64 r x72 a1 a2 a3 a4 a5 M))))
def dn_X6_freeMagic_L15  (a1 a2 a4 : Int) (x72 : Int → Int → fMem → fOp) : Nat → Int → Int → fMem → fOp
  | 0, _, _, _ => none
  | n + 1, a3, a5, M => dn_X6_freeMagic_L15B a1 a2 a4 (fun a3 a5 M => dn_X6_freeMagic_L15 a1 a2 a4 x72 n a3 a5 M) x72 a3 a5 M
set_option maxRecDepth 100000 in
set_option maxHeartbeats 4000000 in
theorem wk_X6_freeMagic_L15B {l : Launch} {p : Program} {e : Env} {s : State} {m : MethodId} {args : Array Value} {below : List Frame} {meth : Method} {c : Code} {D : va_G} {aC : Nat → ClassId} {ad : Nat → Nat} (hC : fCx p s m args c vwCl D aC TB ad (fFr ad TB) goodTs cX6_freeMagic RX6 6) (hr : meth.sig.returnType = some .int) (hk : meth.locks = false) (a1 a2 a4 : Int) (r : Int → Int → fMem → fOp) (hrc : ∀ (a3 a5 : Int) (M : fMem), GM l p e s m args below meth c D aC ad 6 0 0 0 15 [(0, .ref (ad 115)), (1, .int (fI a1)), (2, .int (fI a2)), (3, .int (fI a3)), (4, .int (fI a4)), (5, .int (fI a5))] [] M (r a3 a5 M)) (x72 : Int → Int → fMem → fOp) (hx72 : ∀ (y3 y5 : Int) (M : fMem), GM l p e s m args below meth c D aC ad 6 0 0 0 72 [(0, .ref (ad 115)), (1, .int (fI a1)), (2, .int (fI a2)), (3, .int (fI y3)), (4, .int (fI a4)), (5, .int (fI y5))] [] M (x72 y3 y5 M)) (a3 a5 : Int) (M : fMem) : GM l p e s m args below meth c D aC ad 6 0 0 0 15 [(0, .ref (ad 115)), (1, .int (fI a1)), (2, .int (fI a2)), (3, .int (fI a3)), (4, .int (fI a4)), (5, .int (fI a5))] [] M (dn_X6_freeMagic_L15B a1 a2 a4 r x72 a3 a5 M) := by
  unfold dn_X6_freeMagic_L15B
  refine g_iload hC 5 17 rfl dX6_freeMagic_15 rfl ?_
  refine g_aload_n hC 0 18 rfl dX6_freeMagic_17 rfl rfl ?_
  refine g_getA hC 21 inX6 rfl 5 (by decide) gw_532 rfl tb_MD rfl dX6_freeMagic_18 rfl ?_
  refine g_iload_n hC 1 22 rfl dX6_freeMagic_21 rfl rfl ?_
  refine g_iald hC 23 tb_MD_6 (by decide) dX6_freeMagic_22 rfl (fun x1 => ?_)
  refine g_icmp_gt hC 72 26 dX6_freeMagic_23 rfl rfl ?_ ?_
  · exact hx72 _ _ _
  · refine g_aload_n hC 0 27 rfl dX6_freeMagic_26 rfl rfl ?_
    refine g_getA hC 30 inX6 rfl 6 (by decide) gw_533 rfl tb_MD rfl dX6_freeMagic_27 rfl ?_
    refine g_bipush hC 32 dX6_freeMagic_30 rfl (by decide +kernel) ?_
    refine g_iload_n hC 1 33 rfl dX6_freeMagic_32 rfl rfl ?_
    refine g_imul hC 34 dX6_freeMagic_33 rfl ?_
    refine g_iload hC 5 36 rfl dX6_freeMagic_34 rfl ?_
    refine g_iadd hC 37 dX6_freeMagic_36 rfl ?_
    refine g_iald hC 38 tb_MD_7 (by decide) dX6_freeMagic_37 rfl (fun x2 => ?_)
    refine g_iload_n hC 2 39 rfl dX6_freeMagic_38 rfl rfl ?_
    refine g_icmp_ne hC 64 42 dX6_freeMagic_39 rfl rfl ?_ ?_
    · exact wk_X6_freeMagic_J64 hC hr hk _ _ _ _ _ _ hrc _ hx72 _
    · refine g_aload_n hC 0 43 rfl dX6_freeMagic_42 rfl rfl ?_
      refine g_getA hC 46 inX6 rfl 7 (by decide) gw_534 rfl tb_MD rfl dX6_freeMagic_43 rfl ?_
      refine g_bipush hC 48 dX6_freeMagic_46 rfl (by decide +kernel) ?_
      refine g_iload_n hC 1 49 rfl dX6_freeMagic_48 rfl rfl ?_
      refine g_imul hC 50 dX6_freeMagic_49 rfl ?_
      refine g_iload hC 5 52 rfl dX6_freeMagic_50 rfl ?_
      refine g_iadd hC 53 dX6_freeMagic_52 rfl ?_
      refine g_iald hC 54 tb_MD_8 (by decide) dX6_freeMagic_53 rfl (fun x3 => ?_)
      refine g_iload_n hC 3 55 rfl dX6_freeMagic_54 rfl rfl ?_
      refine g_icmp_ne hC 64 58 dX6_freeMagic_55 rfl rfl ?_ ?_
      · exact wk_X6_freeMagic_J64 hC hr hk _ _ _ _ _ _ hrc _ hx72 _
      · refine g_iload_n hC 3 59 rfl dX6_freeMagic_58 rfl rfl ?_
        refine g_iconst hC 60 dX6_freeMagic_59 rfl ?_
        refine g_iadd hC 61 dX6_freeMagic_60 rfl ?_
        refine g_goto hC 65 dX6_freeMagic_61 rfl ?_
        exact wk_X6_freeMagic_J65 hC hr hk _ _ _ _ _ _ _ hrc _ hx72 _
set_option maxRecDepth 100000 in
set_option maxHeartbeats 4000000 in
theorem wk_X6_freeMagic_L15 {l : Launch} {p : Program} {e : Env} {s : State} {m : MethodId} {args : Array Value} {below : List Frame} {meth : Method} {c : Code} {D : va_G} {aC : Nat → ClassId} {ad : Nat → Nat} (hC : fCx p s m args c vwCl D aC TB ad (fFr ad TB) goodTs cX6_freeMagic RX6 6) (hr : meth.sig.returnType = some .int) (hk : meth.locks = false) (a1 a2 a4 : Int) (x72 : Int → Int → fMem → fOp) (hx72 : ∀ (y3 y5 : Int) (M : fMem), GM l p e s m args below meth c D aC ad 6 0 0 0 72 [(0, .ref (ad 115)), (1, .int (fI a1)), (2, .int (fI a2)), (3, .int (fI y3)), (4, .int (fI a4)), (5, .int (fI y5))] [] M (x72 y3 y5 M)) (n : Nat) : ∀ (a3 a5 : Int) (M : fMem), GM l p e s m args below meth c D aC ad 6 0 0 0 15 [(0, .ref (ad 115)), (1, .int (fI a1)), (2, .int (fI a2)), (3, .int (fI a3)), (4, .int (fI a4)), (5, .int (fI a5))] [] M (dn_X6_freeMagic_L15 a1 a2 a4 x72 n a3 a5 M) := by
  induction n with
  | zero => intro a3 a5 M; exact g_none
  | succ n ih => intro a3 a5 M; exact wk_X6_freeMagic_L15B hC hr hk a1 a2 a4 (fun a3 a5 M => dn_X6_freeMagic_L15 a1 a2 a4 x72 n a3 a5 M) ih x72 hx72 a3 a5 M
def dn_X6_freeMagic_L5B  (a1 a2 : Int) (r : Int → Int → fMem → fOp) (a3 a4 : Int) (M : fMem) : fOp :=
  fLe 6 a4 (some (a3, M)) (dn_X6_freeMagic_L15 a1 a2 a4 (fun y4 y5 M6 => r y4 (a4 + 1) M6) 600 a3 1 M)
def dn_X6_freeMagic_L5  (a1 a2 : Int) : Nat → Int → Int → fMem → fOp
  | 0, _, _, _ => none
  | n + 1, a3, a4, M => dn_X6_freeMagic_L5B a1 a2 (fun a3 a4 M => dn_X6_freeMagic_L5 a1 a2 n a3 a4 M) a3 a4 M
set_option maxRecDepth 100000 in
set_option maxHeartbeats 4000000 in
theorem wk_X6_freeMagic_L5B {l : Launch} {p : Program} {e : Env} {s : State} {m : MethodId} {args : Array Value} {below : List Frame} {meth : Method} {c : Code} {D : va_G} {aC : Nat → ClassId} {ad : Nat → Nat} (hC : fCx p s m args c vwCl D aC TB ad (fFr ad TB) goodTs cX6_freeMagic RX6 6) (hr : meth.sig.returnType = some .int) (hk : meth.locks = false) (a1 a2 : Int) (r : Int → Int → fMem → fOp) (hrc : ∀ (a3 a4 : Int) (M : fMem), GM l p e s m args below meth c D aC ad 6 0 0 0 5 [(0, .ref (ad 115)), (1, .int (fI a1)), (2, .int (fI a2)), (3, .int (fI a3)), (4, .int (fI a4))] [] M (r a3 a4 M)) (a3 a4 : Int) (M : fMem) : GM l p e s m args below meth c D aC ad 6 0 0 0 5 [(0, .ref (ad 115)), (1, .int (fI a1)), (2, .int (fI a2)), (3, .int (fI a3)), (4, .int (fI a4))] [] M (dn_X6_freeMagic_L5B a1 a2 r a3 a4 M) := by
  unfold dn_X6_freeMagic_L5B
  refine g_iload hC 4 7 rfl dX6_freeMagic_5 rfl ?_
  refine g_bipush hC 9 dX6_freeMagic_7 rfl (by decide +kernel) ?_
  refine g_icmp_ge hC 78 12 dX6_freeMagic_9 rfl rfl ?_ ?_
  · refine g_iload_n hC 3 79 rfl dX6_freeMagic_78 rfl rfl ?_
    exact g_ireturn hC hr hk dX6_freeMagic_79
  · refine g_iconst hC 13 dX6_freeMagic_12 rfl ?_
    refine g_istore hC 15 [(5, .int (fI 1)), (0, .ref (ad 115)), (1, .int (fI a1)), (2, .int (fI a2)), (3, .int (fI a3)), (4, .int (fI a4))] dX6_freeMagic_13 (by decide) rfl rfl ?_
    refine g_lv [1, 2, 3, 4, 5, 0] rfl ?_
    refine wk_X6_freeMagic_L15 hC hr hk _ _ _ _ (fun y4 y5 M6 => ?_) 600 _ _ _
    · refine g_iinc hC 4 75 [(4, .int (fI (a4 + 1))), (0, .ref (ad 115)), (1, .int (fI a1)), (2, .int (fI a2)), (3, .int (fI y4)), (5, .int (fI y5))] rfl dX6_freeMagic_72 (by decide) rfl rfl ?_
      refine g_goto hC 5 dX6_freeMagic_75 rfl ?_
      refine g_lv [1, 2, 3, 4, 0] rfl ?_
      exact hrc _ _ _
set_option maxRecDepth 100000 in
set_option maxHeartbeats 4000000 in
theorem wk_X6_freeMagic_L5 {l : Launch} {p : Program} {e : Env} {s : State} {m : MethodId} {args : Array Value} {below : List Frame} {meth : Method} {c : Code} {D : va_G} {aC : Nat → ClassId} {ad : Nat → Nat} (hC : fCx p s m args c vwCl D aC TB ad (fFr ad TB) goodTs cX6_freeMagic RX6 6) (hr : meth.sig.returnType = some .int) (hk : meth.locks = false) (a1 a2 : Int) (n : Nat) : ∀ (a3 a4 : Int) (M : fMem), GM l p e s m args below meth c D aC ad 6 0 0 0 5 [(0, .ref (ad 115)), (1, .int (fI a1)), (2, .int (fI a2)), (3, .int (fI a3)), (4, .int (fI a4))] [] M (dn_X6_freeMagic_L5 a1 a2 n a3 a4 M) := by
  induction n with
  | zero => intro a3 a4 M; exact g_none
  | succ n ih => intro a3 a4 M; exact wk_X6_freeMagic_L5B hC hr hk a1 a2 (fun a3 a4 M => dn_X6_freeMagic_L5 a1 a2 n a3 a4 M) ih a3 a4 M
def dn_X6_freeMagic (a1 : Int) (a2 : Int) (M : fMem) : fOp :=
  dn_X6_freeMagic_L5 a1 a2 600 2 0 M
set_option maxRecDepth 100000 in
set_option maxHeartbeats 4000000 in
theorem wk_X6_freeMagic {l : Launch} {p : Program} {e : Env} {s : State} {m : MethodId} {args : Array Value} {below : List Frame} {meth : Method} {c : Code} {D : va_G} {aC : Nat → ClassId} {ad : Nat → Nat} (hC : fCx p s m args c vwCl D aC TB ad (fFr ad TB) goodTs cX6_freeMagic RX6 6) (hr : meth.sig.returnType = some .int) (hk : meth.locks = false) (a1 : Int) (a2 : Int) (M : fMem) : GM l p e s m args below meth c D aC ad 6 0 0 0 0 [(0, .ref (ad 115)), (1, .int (fI a1)), (2, .int (fI a2))] [] M (dn_X6_freeMagic a1 a2 M) := by
  unfold dn_X6_freeMagic
  refine g_iconst hC 1 dX6_freeMagic_0 rfl ?_
  refine g_istore_n hC 2 [(3, .int (fI 2)), (0, .ref (ad 115)), (1, .int (fI a1)), (2, .int (fI a2))] dX6_freeMagic_1 rfl (by decide) rfl rfl ?_
  refine g_iconst hC 3 dX6_freeMagic_2 rfl ?_
  refine g_istore hC 5 [(4, .int (fI 0)), (3, .int (fI 2)), (0, .ref (ad 115)), (1, .int (fI a1)), (2, .int (fI a2))] dX6_freeMagic_3 (by decide) rfl rfl ?_
  refine g_lv [2, 3, 4, 1, 0] rfl ?_
  refine wk_X6_freeMagic_L5 hC hr hk _ _ 600 _ _ _
theorem cn_X6_freeMagic (l : Launch) (a1 : Int) (a2 : Int) (M : fMem) : fMt l vwCl TB yX6_freeMagic cX6_freeMagic 6 (some .int) 0 0 0 (fun ad => [.ref (ad 115), .int (fI a1), .int (fI a2)]) M (dn_X6_freeMagic a1 a2 M) :=
  fMt.of (by decide +kernel) (fun _ => Nat.le_of_ble_eq_true rfl) (fun p e s m args below meth c D aC ad hC hr hk => wk_X6_freeMagic hC hr hk a1 a2 M)
def dn_X6_branchAt (a1 : Int) (a2 : Int) (a3 : Int) (M : fMem) : fOp :=
  fRd M 121 4 a1 (fun x1 => fWr M 122 24 ((6 * a1) + (x1 + 1)) a2 (fun M2 => fWr M2 123 24 ((6 * a1) + (x1 + 1)) a3 (fun M3 => fRd M3 121 4 a1 (fun x4 => fWr M3 121 4 a1 (x4 + 1) (fun M5 => some (x1 + 1, M5))))))
set_option maxRecDepth 100000 in
set_option maxHeartbeats 4000000 in
theorem wk_X6_branchAt {l : Launch} {p : Program} {e : Env} {s : State} {m : MethodId} {args : Array Value} {below : List Frame} {meth : Method} {c : Code} {D : va_G} {aC : Nat → ClassId} {ad : Nat → Nat} (hC : fCx p s m args c vwCl D aC TB ad (fFr ad TB) goodTs cX6_branchAt RX6 5) (hr : meth.sig.returnType = some .int) (hk : meth.locks = false) (a1 : Int) (a2 : Int) (a3 : Int) (M : fMem) : GM l p e s m args below meth c D aC ad 5 0 0 0 0 [(0, .ref (ad 115)), (1, .int (fI a1)), (2, .int (fI a2)), (3, .int (fI a3))] [] M (dn_X6_branchAt a1 a2 a3 M) := by
  unfold dn_X6_branchAt
  refine g_aload_n hC 0 1 rfl dX6_branchAt_0 rfl rfl ?_
  refine g_getA hC 4 inX6 rfl 5 (by decide) gw_532 rfl tb_MD rfl dX6_branchAt_1 rfl ?_
  refine g_iload_n hC 1 5 rfl dX6_branchAt_4 rfl rfl ?_
  refine g_iald hC 6 tb_MD_6 (by decide) dX6_branchAt_5 rfl (fun x1 => ?_)
  refine g_iconst hC 7 dX6_branchAt_6 rfl ?_
  refine g_iadd hC 8 dX6_branchAt_7 rfl ?_
  refine g_istore hC 10 [(4, .int (fI (x1 + 1))), (0, .ref (ad 115)), (1, .int (fI a1)), (2, .int (fI a2)), (3, .int (fI a3))] dX6_branchAt_8 (by decide) rfl rfl ?_
  refine g_aload_n hC 1 11 rfl dX6_branchAt_10 rfl rfl ?_
  refine g_getA hC 14 inX6 rfl 6 (by decide) gw_533 rfl tb_MD rfl dX6_branchAt_11 rfl ?_
  refine g_bipush hC 16 dX6_branchAt_14 rfl (by decide +kernel) ?_
  refine g_iload_n hC 2 17 rfl dX6_branchAt_16 rfl rfl ?_
  refine g_imul hC 18 dX6_branchAt_17 rfl ?_
  refine g_iload hC 0 20 rfl dX6_branchAt_18 rfl ?_
  refine g_iadd hC 21 dX6_branchAt_20 rfl ?_
  refine g_iload_n hC 3 22 rfl dX6_branchAt_21 rfl rfl ?_
  refine g_iast hC 23 tb_MD_7 (by decide) dX6_branchAt_22 rfl (fun M2 => ?_)
  refine g_aload_n hC 1 24 rfl dX6_branchAt_23 rfl rfl ?_
  refine g_getA hC 27 inX6 rfl 7 (by decide) gw_534 rfl tb_MD rfl dX6_branchAt_24 rfl ?_
  refine g_bipush hC 29 dX6_branchAt_27 rfl (by decide +kernel) ?_
  refine g_iload_n hC 2 30 rfl dX6_branchAt_29 rfl rfl ?_
  refine g_imul hC 31 dX6_branchAt_30 rfl ?_
  refine g_iload hC 0 33 rfl dX6_branchAt_31 rfl ?_
  refine g_iadd hC 34 dX6_branchAt_33 rfl ?_
  refine g_iload_n hC 4 35 rfl dX6_branchAt_34 rfl rfl ?_
  refine g_iast hC 36 tb_MD_8 (by decide) dX6_branchAt_35 rfl (fun M3 => ?_)
  refine g_aload_n hC 1 37 rfl dX6_branchAt_36 rfl rfl ?_
  refine g_getA hC 40 inX6 rfl 5 (by decide) gw_532 rfl tb_MD rfl dX6_branchAt_37 rfl ?_
  refine g_iload_n hC 2 41 rfl dX6_branchAt_40 rfl rfl ?_
  refine g_dup2 hC 42 dX6_branchAt_41 rfl rfl rfl ?_
  refine g_iald hC 43 tb_MD_6 (by decide) dX6_branchAt_42 rfl (fun x4 => ?_)
  refine g_iconst hC 44 dX6_branchAt_43 rfl ?_
  refine g_iadd hC 45 dX6_branchAt_44 rfl ?_
  refine g_iast hC 46 tb_MD_6 (by decide) dX6_branchAt_45 rfl (fun M5 => ?_)
  refine g_iload hC 0 48 rfl dX6_branchAt_46 rfl ?_
  exact g_ireturn hC hr hk dX6_branchAt_48
theorem cn_X6_branchAt (l : Launch) (a1 : Int) (a2 : Int) (a3 : Int) (M : fMem) : fMt l vwCl TB yX6_branchAt cX6_branchAt 5 (some .int) 0 0 0 (fun ad => [.ref (ad 115), .int (fI a1), .int (fI a2), .int (fI a3)]) M (dn_X6_branchAt a1 a2 a3 M) :=
  fMt.of (by decide +kernel) (fun _ => Nat.le_of_ble_eq_true rfl) (fun p e s m args below meth c D aC ad hC hr hk => wk_X6_branchAt hC hr hk a1 a2 a3 M)
def dn_X6_commit_J240  (a1 a2 a3 a4 a5 a6 a8 as0 as1 : Int) (M : fMem) : fOp :=
  fWr M 128 12 as1 as0 (fun M15 => fWz M15 129 12 a3 0 (fun M16 => some (a8, M16)))
set_option maxRecDepth 100000 in
set_option maxHeartbeats 4000000 in
theorem wk_X6_commit_J240 {l : Launch} {p : Program} {e : Env} {s : State} {m : MethodId} {args : Array Value} {below : List Frame} {meth : Method} {c : Code} {D : va_G} {aC : Nat → ClassId} {ad : Nat → Nat} (hC : fCx p s m args c vwCl D aC TB ad (fFr ad TB) goodTs cX6_commit RX6 9) (hr : meth.sig.returnType = some .int) (hk : meth.locks = false) (a1 a2 a3 a4 a5 a6 a8 as0 as1 : Int)  (M : fMem) : GM l p e s m args below meth c D aC ad 9 4 96 0 240 [(0, .ref (ad 115)), (1, .int (fI a1)), (2, .int (fI a2)), (3, .int (fI a3)), (4, .int (fI a4)), (5, .int (fI a5)), (6, .long (fL a6)), (8, .int (fI a8))] [.int (fI as0), .int (fI as1), .ref (ad 128)] M (dn_X6_commit_J240 a1 a2 a3 a4 a5 a6 a8 as0 as1 M) := by
  unfold dn_X6_commit_J240
  refine g_iast hC 241 tb_MD_13 (by decide) dX6_commit_240 rfl (fun M15 => ?_)
  refine g_aload_n hC 0 242 rfl dX6_commit_241 rfl rfl ?_
  refine g_getA hC 245 inX6 rfl 13 (by decide) gw_540 rfl tb_MD rfl dX6_commit_242 rfl ?_
  refine g_iload_n hC 3 246 rfl dX6_commit_245 rfl rfl ?_
  refine g_iconst hC 247 dX6_commit_246 rfl ?_
  refine g_zast hC 248 tb_MD_14 (by decide) dX6_commit_247 rfl (fun M16 => ?_)
  refine g_iload hC 7 250 rfl dX6_commit_248 rfl ?_
  exact g_ireturn hC hr hk dX6_commit_250
def dn_X6_commit_J207  (a1 a2 a3 a4 a5 a6 as0 as1 : Int) (M : fMem) : fOp :=
  fRd M 129 12 a3 (fun x11 => fCl (dn_X6_revise as1 as0 a6 x11 M) (fun v12 M13 => fRd M13 129 12 a3 (fun x14 => fEq x14 0 (dn_X6_commit_J240 a1 a2 a3 a4 a5 a6 v12 v12 a3 M13) (dn_X6_commit_J240 a1 a2 a3 a4 a5 a6 v12 (-1) a3 M13))))
set_option maxRecDepth 100000 in
set_option maxHeartbeats 4000000 in
theorem wk_X6_commit_J207 {l : Launch} {p : Program} {e : Env} {s : State} {m : MethodId} {args : Array Value} {below : List Frame} {meth : Method} {c : Code} {D : va_G} {aC : Nat → ClassId} {ad : Nat → Nat} (hC : fCx p s m args c vwCl D aC TB ad (fFr ad TB) goodTs cX6_commit RX6 9) (hr : meth.sig.returnType = some .int) (hk : meth.locks = false) (a1 a2 a3 a4 a5 a6 as0 as1 : Int)  (M : fMem) : GM l p e s m args below meth c D aC ad 9 4 96 0 207 [(0, .ref (ad 115)), (1, .int (fI a1)), (2, .int (fI a2)), (3, .int (fI a3)), (4, .int (fI a4)), (5, .int (fI a5)), (6, .long (fL a6))] [.int (fI as0), .int (fI as1), .ref (ad 115)] M (dn_X6_commit_J207 a1 a2 a3 a4 a5 a6 as0 as1 M) := by
  unfold dn_X6_commit_J207
  refine g_lload hC 6 209 rfl dX6_commit_207 rfl ?_
  refine g_aload_n hC 0 210 rfl dX6_commit_209 rfl rfl ?_
  refine g_getA hC 213 inX6 rfl 13 (by decide) gw_540 rfl tb_MD rfl dX6_commit_210 rfl ?_
  refine g_iload_n hC 3 214 rfl dX6_commit_213 rfl rfl ?_
  refine g_zald hC 215 tb_MD_14 (by decide) dX6_commit_214 rfl (fun x11 => ?_)
  refine g_cV hC 218 4 [.int (fI as1), .int (fI as0), .long (fL a6), .int (fI x11)] [] (cn_X6_revise l as1 as0 a6 x11 _) rfl rfl tb_MD rfl gw_654 gw_657 gw_65 gw_656 gw_42 (by decide +kernel) rfl ⟨Nat.le_of_ble_eq_true rfl, Nat.le_of_ble_eq_true rfl⟩ (Nat.le_of_ble_eq_true rfl) ⟨Nat.zero_le _, Nat.zero_le _⟩ dX6_commit_215 rfl (fun v12 => .int (fI v12) :: []) (fun _ => rfl) (fun v12 M13 => ?_)
  refine g_istore hC 220 [(8, .int (fI v12)), (0, .ref (ad 115)), (1, .int (fI a1)), (2, .int (fI a2)), (3, .int (fI a3)), (4, .int (fI a4)), (5, .int (fI a5)), (6, .long (fL a6))] dX6_commit_218 (by decide) rfl rfl ?_
  refine g_aload_n hC 1 221 rfl dX6_commit_220 rfl rfl ?_
  refine g_getA hC 224 inX6 rfl 12 (by decide) gw_539 rfl tb_MD rfl dX6_commit_221 rfl ?_
  refine g_iload_n hC 4 225 rfl dX6_commit_224 rfl rfl ?_
  refine g_aload_n hC 1 226 rfl dX6_commit_225 rfl rfl ?_
  refine g_getA hC 229 inX6 rfl 13 (by decide) gw_540 rfl tb_MD rfl dX6_commit_226 rfl ?_
  refine g_iload_n hC 4 230 rfl dX6_commit_229 rfl rfl ?_
  refine g_zald hC 231 tb_MD_14 (by decide) dX6_commit_230 rfl (fun x14 => ?_)
  refine g_if_eq hC 238 234 dX6_commit_231 rfl rfl ?_ ?_
  · refine g_iload hC 0 240 rfl dX6_commit_238 rfl ?_
    refine g_lv [1, 2, 3, 4, 5, 6, 7, 0] rfl ?_
    exact wk_X6_commit_J240 hC hr hk _ _ _ _ _ _ _ _ _ _
  · refine g_iconst hC 235 dX6_commit_234 rfl ?_
    refine g_goto hC 240 dX6_commit_235 rfl ?_
    refine g_lv [1, 2, 3, 4, 5, 6, 7, 0] rfl ?_
    exact wk_X6_commit_J240 hC hr hk _ _ _ _ _ _ _ _ _ _
def dn_X6_commit_J183  (a1 a2 a3 a4 a5 as0 : Int) (M : fMem) : fOp :=
  fLe 0 a5 (fRd M 127 20 ((5 * a2) + a5) (fun x10 => dn_X6_commit_J207 a1 a2 a3 a4 a5 as0 x10 a2 M)) (dn_X6_commit_J207 a1 a2 a3 a4 a5 as0 0 a2 M)
set_option maxRecDepth 100000 in
set_option maxHeartbeats 4000000 in
theorem wk_X6_commit_J183 {l : Launch} {p : Program} {e : Env} {s : State} {m : MethodId} {args : Array Value} {below : List Frame} {meth : Method} {c : Code} {D : va_G} {aC : Nat → ClassId} {ad : Nat → Nat} (hC : fCx p s m args c vwCl D aC TB ad (fFr ad TB) goodTs cX6_commit RX6 9) (hr : meth.sig.returnType = some .int) (hk : meth.locks = false) (a1 a2 a3 a4 a5 as0 : Int)  (M : fMem) : GM l p e s m args below meth c D aC ad 9 4 96 0 183 [(0, .ref (ad 115)), (1, .int (fI a1)), (2, .int (fI a2)), (3, .int (fI a3)), (4, .int (fI a4)), (5, .int (fI a5))] [.long (fL as0)] M (dn_X6_commit_J183 a1 a2 a3 a4 a5 as0 M) := by
  unfold dn_X6_commit_J183
  refine g_lstore hC 185 [(6, .long (fL as0)), (0, .ref (ad 115)), (1, .int (fI a1)), (2, .int (fI a2)), (3, .int (fI a3)), (4, .int (fI a4)), (5, .int (fI a5))] dX6_commit_183 (by decide) rfl rfl ?_
  refine g_aload_n hC 1 186 rfl dX6_commit_185 rfl rfl ?_
  refine g_iload_n hC 3 187 rfl dX6_commit_186 rfl rfl ?_
  refine g_iload hC 6 189 rfl dX6_commit_187 rfl ?_
  refine g_if_ge hC 196 192 dX6_commit_189 rfl rfl ?_ ?_
  · refine g_aload_n hC 1 197 rfl dX6_commit_196 rfl rfl ?_
    refine g_getA hC 200 inX6 rfl 11 (by decide) gw_538 rfl tb_MD rfl dX6_commit_197 rfl ?_
    refine g_iconst hC 201 dX6_commit_200 rfl ?_
    refine g_iload_n hC 3 202 rfl dX6_commit_201 rfl rfl ?_
    refine g_imul hC 203 dX6_commit_202 rfl ?_
    refine g_iload hC 6 205 rfl dX6_commit_203 rfl ?_
    refine g_iadd hC 206 dX6_commit_205 rfl ?_
    refine g_iald hC 207 tb_MD_12 (by decide) dX6_commit_206 rfl (fun x10 => ?_)
    refine g_lv [1, 2, 3, 4, 5, 6, 0] rfl ?_
    exact wk_X6_commit_J207 hC hr hk _ _ _ _ _ _ _ _ _
  · refine g_iconst hC 193 dX6_commit_192 rfl ?_
    refine g_goto hC 207 dX6_commit_193 rfl ?_
    refine g_lv [1, 2, 3, 4, 5, 6, 0] rfl ?_
    exact wk_X6_commit_J207 hC hr hk _ _ _ _ _ _ _ _ _
def dn_X6_commit_J149  (a1 a2 a3 a4 a5 : Int) (M : fMem) : fOp :=
  fRd M 129 12 a3 (fun x8 => fEq x8 0 (fRd M 130 12 a3 (fun x9 => dn_X6_commit_J183 a1 a2 a3 a4 a5 x9 M)) (fRd M 128 12 a3 (fun x17 => fRd M 117 96 ((24 * a2) + x17) (fun x18 => dn_X6_commit_J183 a1 a2 a3 a4 a5 x18 M))))
set_option maxRecDepth 100000 in
set_option maxHeartbeats 4000000 in
theorem wk_X6_commit_J149 {l : Launch} {p : Program} {e : Env} {s : State} {m : MethodId} {args : Array Value} {below : List Frame} {meth : Method} {c : Code} {D : va_G} {aC : Nat → ClassId} {ad : Nat → Nat} (hC : fCx p s m args c vwCl D aC TB ad (fFr ad TB) goodTs cX6_commit RX6 9) (hr : meth.sig.returnType = some .int) (hk : meth.locks = false) (a1 a2 a3 a4 a5 : Int)  (M : fMem) : GM l p e s m args below meth c D aC ad 9 4 96 0 149 [(0, .ref (ad 115)), (1, .int (fI a1)), (2, .int (fI a2)), (3, .int (fI a3)), (4, .int (fI a4)), (5, .int (fI a5))] [] M (dn_X6_commit_J149 a1 a2 a3 a4 a5 M) := by
  unfold dn_X6_commit_J149
  refine g_aload_n hC 0 150 rfl dX6_commit_149 rfl rfl ?_
  refine g_getA hC 153 inX6 rfl 13 (by decide) gw_540 rfl tb_MD rfl dX6_commit_150 rfl ?_
  refine g_iload_n hC 3 154 rfl dX6_commit_153 rfl rfl ?_
  refine g_zald hC 155 tb_MD_14 (by decide) dX6_commit_154 rfl (fun x8 => ?_)
  refine g_if_eq hC 177 158 dX6_commit_155 rfl rfl ?_ ?_
  · refine g_aload_n hC 0 178 rfl dX6_commit_177 rfl rfl ?_
    refine g_getA hC 181 inX6 rfl 14 (by decide) gw_541 rfl tb_MD rfl dX6_commit_178 rfl ?_
    refine g_iload_n hC 3 182 rfl dX6_commit_181 rfl rfl ?_
    refine g_lald hC 183 tb_MD_15 (by decide) dX6_commit_182 rfl (fun x9 => ?_)
    exact wk_X6_commit_J183 hC hr hk _ _ _ _ _ _ _
  · refine g_aload_n hC 0 159 rfl dX6_commit_158 rfl rfl ?_
    refine g_getA hC 162 inX6 rfl 1 (by decide) gw_528 rfl tb_MD rfl dX6_commit_159 rfl ?_
    refine g_bipush hC 164 dX6_commit_162 rfl (by decide +kernel) ?_
    refine g_iload_n hC 2 165 rfl dX6_commit_164 rfl rfl ?_
    refine g_imul hC 166 dX6_commit_165 rfl ?_
    refine g_aload_n hC 0 167 rfl dX6_commit_166 rfl rfl ?_
    refine g_getA hC 170 inX6 rfl 12 (by decide) gw_539 rfl tb_MD rfl dX6_commit_167 rfl ?_
    refine g_iload_n hC 3 171 rfl dX6_commit_170 rfl rfl ?_
    refine g_iald hC 172 tb_MD_13 (by decide) dX6_commit_171 rfl (fun x17 => ?_)
    refine g_iadd hC 173 dX6_commit_172 rfl ?_
    refine g_lald hC 174 tb_MD_2 (by decide) dX6_commit_173 rfl (fun x18 => ?_)
    refine g_goto hC 183 dX6_commit_174 rfl ?_
    exact wk_X6_commit_J183 hC hr hk _ _ _ _ _ _ _
def dn_X6_commit_J137  (a1 a2 a3 a4 a5 : Int) (M : fMem) : fOp :=
  fLe 0 a5 (dn_X6_commit_J149 a1 a2 a3 a4 a5 M) (fWr M 125 4 a2 0 (fun M19 => dn_X6_commit_J149 a1 a2 a3 a4 a5 M19))
set_option maxRecDepth 100000 in
set_option maxHeartbeats 4000000 in
theorem wk_X6_commit_J137 {l : Launch} {p : Program} {e : Env} {s : State} {m : MethodId} {args : Array Value} {below : List Frame} {meth : Method} {c : Code} {D : va_G} {aC : Nat → ClassId} {ad : Nat → Nat} (hC : fCx p s m args c vwCl D aC TB ad (fFr ad TB) goodTs cX6_commit RX6 9) (hr : meth.sig.returnType = some .int) (hk : meth.locks = false) (a1 a2 a3 a4 a5 : Int)  (M : fMem) : GM l p e s m args below meth c D aC ad 9 4 96 0 137 [(0, .ref (ad 115)), (1, .int (fI a1)), (2, .int (fI a2)), (3, .int (fI a3)), (4, .int (fI a4)), (5, .int (fI a5))] [] M (dn_X6_commit_J137 a1 a2 a3 a4 a5 M) := by
  unfold dn_X6_commit_J137
  refine g_iload hC 5 139 rfl dX6_commit_137 rfl ?_
  refine g_if_ge hC 149 142 dX6_commit_139 rfl rfl ?_ ?_
  · exact wk_X6_commit_J149 hC hr hk _ _ _ _ _ _
  · refine g_aload_n hC 0 143 rfl dX6_commit_142 rfl rfl ?_
    refine g_getA hC 146 inX6 rfl 9 (by decide) gw_536 rfl tb_MD rfl dX6_commit_143 rfl ?_
    refine g_iload_n hC 2 147 rfl dX6_commit_146 rfl rfl ?_
    refine g_iconst hC 148 dX6_commit_147 rfl ?_
    refine g_iast hC 149 tb_MD_10 (by decide) dX6_commit_148 rfl (fun M19 => ?_)
    exact wk_X6_commit_J149 hC hr hk _ _ _ _ _ _
def dn_X6_commit_J84  (a1 a2 a3 a4 a5 : Int) (M : fMem) : fOp :=
  fLt a5 0 (dn_X6_commit_J137 a1 a2 a3 a4 a5 M) (fRd M 127 20 ((5 * a2) + a5) (fun x20 => fEq x20 (-1) (fCl (dn_X6_last a2 0 M) (fun v21 M22 => fCl (dn_X6_freeMagic a2 v21 M22) (fun v23 M24 => fCl (dn_X6_branchAt a2 v21 v23 M24) (fun v25 M26 => fWr M26 127 20 ((5 * a2) + a5) v25 (fun M27 => dn_X6_commit_J137 a1 a2 a3 a4 a5 M27))))) (dn_X6_commit_J137 a1 a2 a3 a4 a5 M)))
set_option maxRecDepth 100000 in
set_option maxHeartbeats 4000000 in
theorem wk_X6_commit_J84 {l : Launch} {p : Program} {e : Env} {s : State} {m : MethodId} {args : Array Value} {below : List Frame} {meth : Method} {c : Code} {D : va_G} {aC : Nat → ClassId} {ad : Nat → Nat} (hC : fCx p s m args c vwCl D aC TB ad (fFr ad TB) goodTs cX6_commit RX6 9) (hr : meth.sig.returnType = some .int) (hk : meth.locks = false) (a1 a2 a3 a4 a5 : Int)  (M : fMem) : GM l p e s m args below meth c D aC ad 9 4 96 0 84 [(0, .ref (ad 115)), (1, .int (fI a1)), (2, .int (fI a2)), (3, .int (fI a3)), (4, .int (fI a4)), (5, .int (fI a5))] [] M (dn_X6_commit_J84 a1 a2 a3 a4 a5 M) := by
  unfold dn_X6_commit_J84
  refine g_iload hC 5 86 rfl dX6_commit_84 rfl ?_
  refine g_if_lt hC 137 89 dX6_commit_86 rfl rfl ?_ ?_
  · exact wk_X6_commit_J137 hC hr hk _ _ _ _ _ _
  · refine g_aload_n hC 0 90 rfl dX6_commit_89 rfl rfl ?_
    refine g_getA hC 93 inX6 rfl 11 (by decide) gw_538 rfl tb_MD rfl dX6_commit_90 rfl ?_
    refine g_iconst hC 94 dX6_commit_93 rfl ?_
    refine g_iload_n hC 2 95 rfl dX6_commit_94 rfl rfl ?_
    refine g_imul hC 96 dX6_commit_95 rfl ?_
    refine g_iload hC 5 98 rfl dX6_commit_96 rfl ?_
    refine g_iadd hC 99 dX6_commit_98 rfl ?_
    refine g_iald hC 100 tb_MD_12 (by decide) dX6_commit_99 rfl (fun x20 => ?_)
    refine g_iconst hC 101 dX6_commit_100 rfl ?_
    refine g_icmp_ne hC 137 104 dX6_commit_101 rfl rfl ?_ ?_
    · exact wk_X6_commit_J137 hC hr hk _ _ _ _ _ _
    · refine g_aload_n hC 0 105 rfl dX6_commit_104 rfl rfl ?_
      refine g_iload_n hC 2 106 rfl dX6_commit_105 rfl rfl ?_
      refine g_iconst hC 107 dX6_commit_106 rfl ?_
      refine g_cV hC 110 2 [.int (fI a2), .int (fI 0)] [] (cn_X6_last l a2 0 _) rfl rfl tb_MD rfl gw_642 gw_645 gw_65 gw_644 gw_39 (by decide +kernel) rfl ⟨Nat.le_of_ble_eq_true rfl, Nat.le_of_ble_eq_true rfl⟩ (Nat.le_of_ble_eq_true rfl) ⟨Nat.zero_le _, Nat.zero_le _⟩ dX6_commit_107 rfl (fun v21 => .int (fI v21) :: []) (fun _ => rfl) (fun v21 M22 => ?_)
      refine g_istore hC 112 [(6, .int (fI v21)), (0, .ref (ad 115)), (1, .int (fI a1)), (2, .int (fI a2)), (3, .int (fI a3)), (4, .int (fI a4)), (5, .int (fI a5))] dX6_commit_110 (by decide) rfl rfl ?_
      refine g_aload_n hC 1 113 rfl dX6_commit_112 rfl rfl ?_
      refine g_getA hC 116 inX6 rfl 11 (by decide) gw_538 rfl tb_MD rfl dX6_commit_113 rfl ?_
      refine g_iconst hC 117 dX6_commit_116 rfl ?_
      refine g_iload_n hC 3 118 rfl dX6_commit_117 rfl rfl ?_
      refine g_imul hC 119 dX6_commit_118 rfl ?_
      refine g_iload hC 6 121 rfl dX6_commit_119 rfl ?_
      refine g_iadd hC 122 dX6_commit_121 rfl ?_
      refine g_aload_n hC 1 123 rfl dX6_commit_122 rfl rfl ?_
      refine g_iload_n hC 3 124 rfl dX6_commit_123 rfl rfl ?_
      refine g_iload hC 0 126 rfl dX6_commit_124 rfl ?_
      refine g_aload_n hC 1 127 rfl dX6_commit_126 rfl rfl ?_
      refine g_iload_n hC 3 128 rfl dX6_commit_127 rfl rfl ?_
      refine g_iload hC 0 130 rfl dX6_commit_128 rfl ?_
      refine g_cV hC 133 2 [.int (fI a2), .int (fI v21)] [.int (fI v21), .int (fI a2), .ref (ad 115), .int (fI ((5 * a2) + a5)), .ref (ad 127)] (cn_X6_freeMagic l a2 v21 _) rfl rfl tb_MD rfl gw_658 gw_661 gw_65 gw_660 gw_43 (by decide +kernel) rfl ⟨Nat.le_of_ble_eq_true rfl, Nat.le_of_ble_eq_true rfl⟩ (Nat.le_of_ble_eq_true rfl) ⟨Nat.zero_le _, Nat.zero_le _⟩ dX6_commit_130 rfl (fun v23 => .int (fI v23) :: [.int (fI v21), .int (fI a2), .ref (ad 115), .int (fI ((5 * a2) + a5)), .ref (ad 127)]) (fun _ => rfl) (fun v23 M24 => ?_)
      refine g_cV hC 136 3 [.int (fI a2), .int (fI v21), .int (fI v23)] [.int (fI ((5 * a2) + a5)), .ref (ad 127)] (cn_X6_branchAt l a2 v21 v23 _) rfl rfl tb_MD rfl gw_662 gw_665 gw_65 gw_664 gw_44 (by decide +kernel) rfl ⟨Nat.le_of_ble_eq_true rfl, Nat.le_of_ble_eq_true rfl⟩ (Nat.le_of_ble_eq_true rfl) ⟨Nat.zero_le _, Nat.zero_le _⟩ dX6_commit_133 rfl (fun v25 => .int (fI v25) :: [.int (fI ((5 * a2) + a5)), .ref (ad 127)]) (fun _ => rfl) (fun v25 M26 => ?_)
      refine g_iast hC 137 tb_MD_12 (by decide) dX6_commit_136 rfl (fun M27 => ?_)
      refine g_lv [1, 2, 3, 4, 5, 6] rfl ?_
      exact wk_X6_commit_J137 hC hr hk _ _ _ _ _ _
def dn_X6_commit (a1 : Int) (a2 : Int) (M : fMem) : fOp :=
  fCl (dn_X6_noPair a1 a2 M) (fun v1 M2 => fEq v1 0 (fRd M2 128 12 ((4 * a1) + a2) (fun x3 => fEq x3 (-1) (some ((-1), M2)) (fCl (dn_X6_bars a2 ((4 * a1) + a2) M2) (fun v4 M5 => fLe 0 v4 (fRd M5 131 12 ((4 * a1) + a2) (fun x6 => fRd M5 116 4 a2 (fun x7 => fEq x7 0 (fWr M5 125 4 a2 0 (fun M28 => fLt x6 0 (dn_X6_commit_J84 a1 a2 ((4 * a1) + a2) v4 x6 M28) (fCl (dn_X6_revise a2 0 0 1 M28) (fun v29 M30 => dn_X6_commit_J84 a1 a2 ((4 * a1) + a2) v4 x6 M30)))) (dn_X6_commit_J84 a1 a2 ((4 * a1) + a2) v4 x6 M5)))) (some (v4, M5)))))) (some ((-1), M2)))
set_option maxRecDepth 100000 in
set_option maxHeartbeats 4000000 in
theorem wk_X6_commit {l : Launch} {p : Program} {e : Env} {s : State} {m : MethodId} {args : Array Value} {below : List Frame} {meth : Method} {c : Code} {D : va_G} {aC : Nat → ClassId} {ad : Nat → Nat} (hC : fCx p s m args c vwCl D aC TB ad (fFr ad TB) goodTs cX6_commit RX6 9) (hr : meth.sig.returnType = some .int) (hk : meth.locks = false) (a1 : Int) (a2 : Int) (M : fMem) : GM l p e s m args below meth c D aC ad 9 4 96 0 0 [(0, .ref (ad 115)), (1, .int (fI a1)), (2, .int (fI a2))] [] M (dn_X6_commit a1 a2 M) := by
  unfold dn_X6_commit
  refine g_iload_n hC 1 1 rfl dX6_commit_0 rfl rfl ?_
  refine g_iload_n hC 2 2 rfl dX6_commit_1 rfl rfl ?_
  refine g_cS hC 5 2 [.int (fI a1), .int (fI a2)] [] (cn_X6_noPair l a1 a2 _) rfl rfl gw_598 gw_600 gw_65 gw_599 (by decide +kernel) rfl ⟨Nat.le_of_ble_eq_true rfl, Nat.le_of_ble_eq_true rfl⟩ (Nat.le_of_ble_eq_true rfl) ⟨Nat.zero_le _, Nat.zero_le _⟩ dX6_commit_2 rfl (fun v1 => .int (fI v1) :: []) (fun _ => rfl) (fun v1 M2 => ?_)
  refine g_if_ne hC 22 8 dX6_commit_5 rfl rfl ?_ ?_
  · refine g_iconst hC 23 dX6_commit_22 rfl ?_
    exact g_ireturn hC hr hk dX6_commit_23
  · refine g_aload_n hC 0 9 rfl dX6_commit_8 rfl rfl ?_
    refine g_getA hC 12 inX6 rfl 12 (by decide) gw_539 rfl tb_MD rfl dX6_commit_9 rfl ?_
    refine g_iconst hC 13 dX6_commit_12 rfl ?_
    refine g_iload_n hC 1 14 rfl dX6_commit_13 rfl rfl ?_
    refine g_imul hC 15 dX6_commit_14 rfl ?_
    refine g_iload_n hC 2 16 rfl dX6_commit_15 rfl rfl ?_
    refine g_iadd hC 17 dX6_commit_16 rfl ?_
    refine g_iald hC 18 tb_MD_13 (by decide) dX6_commit_17 rfl (fun x3 => ?_)
    refine g_iconst hC 19 dX6_commit_18 rfl ?_
    refine g_icmp_ne hC 24 22 dX6_commit_19 rfl rfl ?_ ?_
    · refine g_iconst hC 25 dX6_commit_24 rfl ?_
      refine g_iload_n hC 1 26 rfl dX6_commit_25 rfl rfl ?_
      refine g_imul hC 27 dX6_commit_26 rfl ?_
      refine g_iload_n hC 2 28 rfl dX6_commit_27 rfl rfl ?_
      refine g_iadd hC 29 dX6_commit_28 rfl ?_
      refine g_istore_n hC 30 [(3, .int (fI ((4 * a1) + a2))), (0, .ref (ad 115)), (1, .int (fI a1)), (2, .int (fI a2))] dX6_commit_29 rfl (by decide) rfl rfl ?_
      refine g_aload_n hC 1 31 rfl dX6_commit_30 rfl rfl ?_
      refine g_iload_n hC 3 32 rfl dX6_commit_31 rfl rfl ?_
      refine g_iload_n hC 0 33 rfl dX6_commit_32 rfl rfl ?_
      refine g_cV hC 36 2 [.int (fI a2), .int (fI ((4 * a1) + a2))] [] (cn_X6_bars l a2 ((4 * a1) + a2) _) rfl rfl tb_MD rfl gw_634 gw_637 gw_65 gw_636 gw_37 (by decide +kernel) rfl ⟨Nat.le_of_ble_eq_true rfl, Nat.le_of_ble_eq_true rfl⟩ (Nat.le_of_ble_eq_true rfl) ⟨Nat.zero_le _, Nat.zero_le _⟩ dX6_commit_33 rfl (fun v4 => .int (fI v4) :: []) (fun _ => rfl) (fun v4 M5 => ?_)
      refine g_istore hC 38 [(4, .int (fI v4)), (3, .int (fI ((4 * a1) + a2))), (0, .ref (ad 115)), (1, .int (fI a1)), (2, .int (fI a2))] dX6_commit_36 (by decide) rfl rfl ?_
      refine g_iload hC 0 40 rfl dX6_commit_38 rfl ?_
      refine g_if_ge hC 46 43 dX6_commit_40 rfl rfl ?_ ?_
      · refine g_aload_n hC 2 47 rfl dX6_commit_46 rfl rfl ?_
        refine g_getA hC 50 inX6 rfl 15 (by decide) gw_542 rfl tb_MD rfl dX6_commit_47 rfl ?_
        refine g_iload_n hC 1 51 rfl dX6_commit_50 rfl rfl ?_
        refine g_iald hC 52 tb_MD_16 (by decide) dX6_commit_51 rfl (fun x6 => ?_)
        refine g_istore hC 54 [(5, .int (fI x6)), (4, .int (fI v4)), (3, .int (fI ((4 * a1) + a2))), (0, .ref (ad 115)), (1, .int (fI a1)), (2, .int (fI a2))] dX6_commit_52 (by decide) rfl rfl ?_
        refine g_aload_n hC 3 55 rfl dX6_commit_54 rfl rfl ?_
        refine g_getA hC 58 inX6 rfl 0 (by decide) gw_527 rfl tb_MD rfl dX6_commit_55 rfl ?_
        refine g_iload_n hC 5 59 rfl dX6_commit_58 rfl rfl ?_
        refine g_iald hC 60 tb_MD_1 (by decide) dX6_commit_59 rfl (fun x7 => ?_)
        refine g_if_ne hC 84 63 dX6_commit_60 rfl rfl ?_ ?_
        · refine g_lv [3, 4, 5, 2, 1, 0] rfl ?_
          exact wk_X6_commit_J84 hC hr hk _ _ _ _ _ _
        · refine g_aload_n hC 3 64 rfl dX6_commit_63 rfl rfl ?_
          refine g_getA hC 67 inX6 rfl 9 (by decide) gw_536 rfl tb_MD rfl dX6_commit_64 rfl ?_
          refine g_iload_n hC 5 68 rfl dX6_commit_67 rfl rfl ?_
          refine g_iconst hC 69 dX6_commit_68 rfl ?_
          refine g_iast hC 70 tb_MD_10 (by decide) dX6_commit_69 rfl (fun M28 => ?_)
          refine g_iload hC 0 72 rfl dX6_commit_70 rfl ?_
          refine g_if_lt hC 84 75 dX6_commit_72 rfl rfl ?_ ?_
          · refine g_lv [3, 4, 5, 2, 1, 0] rfl ?_
            exact wk_X6_commit_J84 hC hr hk _ _ _ _ _ _
          · refine g_aload_n hC 3 76 rfl dX6_commit_75 rfl rfl ?_
            refine g_iload_n hC 5 77 rfl dX6_commit_76 rfl rfl ?_
            refine g_iconst hC 78 dX6_commit_77 rfl ?_
            refine g_lconst hC 0 79 dX6_commit_78 rfl (by decide +kernel) ?_
            refine g_iconst hC 80 dX6_commit_79 rfl ?_
            refine g_cV hC 83 4 [.int (fI a2), .int (fI 0), .long (fL 0), .int (fI 1)] [] (cn_X6_revise l a2 0 0 1 _) rfl rfl tb_MD rfl gw_654 gw_657 gw_65 gw_656 gw_42 (by decide +kernel) rfl ⟨Nat.le_of_ble_eq_true rfl, Nat.le_of_ble_eq_true rfl⟩ (Nat.le_of_ble_eq_true rfl) ⟨Nat.zero_le _, Nat.zero_le _⟩ dX6_commit_80 rfl (fun v29 => .int (fI v29) :: []) (fun _ => rfl) (fun v29 M30 => ?_)
            refine g_pop hC 84 dX6_commit_83 rfl rfl ?_
            refine g_lv [3, 4, 5, 2, 1, 0] rfl ?_
            exact wk_X6_commit_J84 hC hr hk _ _ _ _ _ _
      · refine g_iload hC 0 45 rfl dX6_commit_43 rfl ?_
        exact g_ireturn hC hr hk dX6_commit_45
    · refine g_iconst hC 23 dX6_commit_22 rfl ?_
      exact g_ireturn hC hr hk dX6_commit_23
theorem cn_X6_commit (l : Launch) (a1 : Int) (a2 : Int) (M : fMem) : fMt l vwCl TB yX6_commit cX6_commit 9 (some .int) 4 96 0 (fun ad => [.ref (ad 115), .int (fI a1), .int (fI a2)]) M (dn_X6_commit a1 a2 M) :=
  fMt.of (by decide +kernel) (fun _ => Nat.le_of_ble_eq_true rfl) (fun p e s m args below meth c D aC ad hC hr hk => wk_X6_commit hC hr hk a1 a2 M)
def dn_X6_take (a1 : Int) (a2 : Int) (a3 : Int) (M : fMem) : fOp :=
  fWr M 128 12 a2 a3 (fun M1 => fWz M1 129 12 a2 0 (fun M2 => fRd M2 117 96 ((24 * a1) + a3) (fun x3 => fWr M2 130 12 a2 x3 (fun M4 => some (0, M4)))))
set_option maxRecDepth 100000 in
set_option maxHeartbeats 4000000 in
theorem wk_X6_take {l : Launch} {p : Program} {e : Env} {s : State} {m : MethodId} {args : Array Value} {below : List Frame} {meth : Method} {c : Code} {D : va_G} {aC : Nat → ClassId} {ad : Nat → Nat} (hC : fCx p s m args c vwCl D aC TB ad (fFr ad TB) goodTs cX6_take RX6 4) (hr : meth.sig.returnType = none) (hk : meth.locks = false) (a1 : Int) (a2 : Int) (a3 : Int) (M : fMem) : GM l p e s m args below meth c D aC ad 4 0 0 2 0 [(0, .ref (ad 115)), (1, .int (fI a1)), (2, .int (fI a2)), (3, .int (fI a3))] [] M (dn_X6_take a1 a2 a3 M) := by
  unfold dn_X6_take
  refine g_aload_n hC 0 1 rfl dX6_take_0 rfl rfl ?_
  refine g_getA hC 4 inX6 rfl 12 (by decide) gw_539 rfl tb_MD rfl dX6_take_1 rfl ?_
  refine g_iload_n hC 2 5 rfl dX6_take_4 rfl rfl ?_
  refine g_iload_n hC 3 6 rfl dX6_take_5 rfl rfl ?_
  refine g_iast hC 7 tb_MD_13 (by decide) dX6_take_6 rfl (fun M1 => ?_)
  refine g_aload_n hC 0 8 rfl dX6_take_7 rfl rfl ?_
  refine g_getA hC 11 inX6 rfl 13 (by decide) gw_540 rfl tb_MD rfl dX6_take_8 rfl ?_
  refine g_iload_n hC 2 12 rfl dX6_take_11 rfl rfl ?_
  refine g_iconst hC 13 dX6_take_12 rfl ?_
  refine g_zast hC 14 tb_MD_14 (by decide) dX6_take_13 rfl (fun M2 => ?_)
  refine g_aload_n hC 0 15 rfl dX6_take_14 rfl rfl ?_
  refine g_getA hC 18 inX6 rfl 14 (by decide) gw_541 rfl tb_MD rfl dX6_take_15 rfl ?_
  refine g_iload_n hC 2 19 rfl dX6_take_18 rfl rfl ?_
  refine g_aload_n hC 0 20 rfl dX6_take_19 rfl rfl ?_
  refine g_getA hC 23 inX6 rfl 1 (by decide) gw_528 rfl tb_MD rfl dX6_take_20 rfl ?_
  refine g_bipush hC 25 dX6_take_23 rfl (by decide +kernel) ?_
  refine g_iload_n hC 1 26 rfl dX6_take_25 rfl rfl ?_
  refine g_imul hC 27 dX6_take_26 rfl ?_
  refine g_iload_n hC 3 28 rfl dX6_take_27 rfl rfl ?_
  refine g_iadd hC 29 dX6_take_28 rfl ?_
  refine g_lald hC 30 tb_MD_2 (by decide) dX6_take_29 rfl (fun x3 => ?_)
  refine g_last hC 31 tb_MD_15 (by decide) dX6_take_30 rfl (fun M4 => ?_)
  exact g_return hC hr hk dX6_take_31
theorem cn_X6_take (l : Launch) (a1 : Int) (a2 : Int) (a3 : Int) (M : fMem) : fMt l vwCl TB yX6_take cX6_take 4 (none) 0 0 2 (fun ad => [.ref (ad 115), .int (fI a1), .int (fI a2), .int (fI a3)]) M (dn_X6_take a1 a2 a3 M) :=
  fMt.of (by decide +kernel) (fun _ => Nat.le_of_ble_eq_true rfl) (fun p e s m args below meth c D aC ad hC hr hk => wk_X6_take hC hr hk a1 a2 a3 M)
def dn_X6_fill_L3B  (a1 a3 : Int) (r : Int → fMem → fOp) (x25 : Int → fMem → fOp) (a5 : Int) (M : fMem) : fOp :=
  fLe 169 a5 (x25 a5 M) (fWr M 132 169 a5 0 (fun M1 => r (a5 + 1) M1))
def dn_X6_fill_L3  (a1 a3 : Int) (x25 : Int → fMem → fOp) : Nat → Int → fMem → fOp
  | 0, _, _ => none
  | n + 1, a5, M => dn_X6_fill_L3B a1 a3 (fun a5 M => dn_X6_fill_L3 a1 a3 x25 n a5 M) x25 a5 M
set_option maxRecDepth 100000 in
set_option maxHeartbeats 4000000 in
theorem wk_X6_fill_L3B {l : Launch} {p : Program} {e : Env} {s : State} {m : MethodId} {args : Array Value} {below : List Frame} {meth : Method} {c : Code} {D : va_G} {aC : Nat → ClassId} {ad : Nat → Nat} (hC : fCx p s m args c vwCl D aC TB ad (fFr ad TB) goodTs cX6_fill RX6 10) (hr : meth.sig.returnType = none) (hk : meth.locks = false) (a1 a3 : Int) (r : Int → fMem → fOp) (hrc : ∀ (a5 : Int) (M : fMem), GM l p e s m args below meth c D aC ad 10 2 46 2 3 [(0, .ref (ad 115)), (1, .long (fL a1)), (3, .long (fL a3)), (5, .int (fI a5))] [] M (r a5 M)) (x25 : Int → fMem → fOp) (hx25 : ∀ (y5 : Int) (M : fMem), GM l p e s m args below meth c D aC ad 10 2 46 2 25 [(0, .ref (ad 115)), (1, .long (fL a1)), (3, .long (fL a3)), (5, .int (fI y5))] [] M (x25 y5 M)) (a5 : Int) (M : fMem) : GM l p e s m args below meth c D aC ad 10 2 46 2 3 [(0, .ref (ad 115)), (1, .long (fL a1)), (3, .long (fL a3)), (5, .int (fI a5))] [] M (dn_X6_fill_L3B a1 a3 r x25 a5 M) := by
  unfold dn_X6_fill_L3B
  refine g_iload hC 3 5 rfl dX6_fill_3 rfl ?_
  refine g_sipush hC 8 dX6_fill_5 rfl (by decide +kernel) ?_
  refine g_icmp_ge hC 25 11 dX6_fill_8 rfl rfl ?_ ?_
  · exact hx25 _ _
  · refine g_aload_n hC 0 12 rfl dX6_fill_11 rfl rfl ?_
    refine g_getA hC 15 inX6 rfl 16 (by decide) gw_543 rfl tb_MD rfl dX6_fill_12 rfl ?_
    refine g_iload hC 3 17 rfl dX6_fill_15 rfl ?_
    refine g_iconst hC 18 dX6_fill_17 rfl ?_
    refine g_iast hC 19 tb_MD_17 (by decide) dX6_fill_18 rfl (fun M1 => ?_)
    refine g_iinc hC 3 22 [(5, .int (fI (a5 + 1))), (0, .ref (ad 115)), (1, .long (fL a1)), (3, .long (fL a3))] rfl dX6_fill_19 (by decide) rfl rfl ?_
    refine g_goto hC 3 dX6_fill_22 rfl ?_
    refine g_lv [1, 2, 3, 0] rfl ?_
    exact hrc _ _
set_option maxRecDepth 100000 in
set_option maxHeartbeats 4000000 in
theorem wk_X6_fill_L3 {l : Launch} {p : Program} {e : Env} {s : State} {m : MethodId} {args : Array Value} {below : List Frame} {meth : Method} {c : Code} {D : va_G} {aC : Nat → ClassId} {ad : Nat → Nat} (hC : fCx p s m args c vwCl D aC TB ad (fFr ad TB) goodTs cX6_fill RX6 10) (hr : meth.sig.returnType = none) (hk : meth.locks = false) (a1 a3 : Int) (x25 : Int → fMem → fOp) (hx25 : ∀ (y5 : Int) (M : fMem), GM l p e s m args below meth c D aC ad 10 2 46 2 25 [(0, .ref (ad 115)), (1, .long (fL a1)), (3, .long (fL a3)), (5, .int (fI y5))] [] M (x25 y5 M)) (n : Nat) : ∀ (a5 : Int) (M : fMem), GM l p e s m args below meth c D aC ad 10 2 46 2 3 [(0, .ref (ad 115)), (1, .long (fL a1)), (3, .long (fL a3)), (5, .int (fI a5))] [] M (dn_X6_fill_L3 a1 a3 x25 n a5 M) := by
  induction n with
  | zero => intro a5 M; exact g_none
  | succ n ih => intro a5 M; exact wk_X6_fill_L3B hC hr hk a1 a3 (fun a5 M => dn_X6_fill_L3 a1 a3 x25 n a5 M) ih x25 hx25 a5 M
def dn_X6_fill_J154  (r : Int → fMem → fOp) (x161 : Int → fMem → fOp) (a1 a3 a5 a6 a7 a8 a9 as0 as1 : Int) (M : fMem) : fOp :=
  fWr M 132 169 as1 as0 (fun M15 => r (a6 + (-1)) M15)
set_option maxRecDepth 100000 in
set_option maxHeartbeats 4000000 in
theorem wk_X6_fill_J154 {l : Launch} {p : Program} {e : Env} {s : State} {m : MethodId} {args : Array Value} {below : List Frame} {meth : Method} {c : Code} {D : va_G} {aC : Nat → ClassId} {ad : Nat → Nat} (hC : fCx p s m args c vwCl D aC TB ad (fFr ad TB) goodTs cX6_fill RX6 10) (hr : meth.sig.returnType = none) (hk : meth.locks = false) (a1 a3 a5 a6 a7 a8 a9 as0 as1 : Int)  (r : Int → fMem → fOp) (hrc : ∀ (z6 : Int) (M : fMem), GM l p e s m args below meth c D aC ad 10 2 46 2 46 [(0, .ref (ad 115)), (1, .long (fL a1)), (3, .long (fL a3)), (5, .int (fI a5)), (6, .int (fI z6))] [] M (r z6 M)) (x161 : Int → fMem → fOp) (hx161 : ∀ (y6 : Int) (M : fMem), GM l p e s m args below meth c D aC ad 10 2 46 2 161 [(0, .ref (ad 115)), (1, .long (fL a1)), (3, .long (fL a3)), (5, .int (fI a5)), (6, .int (fI y6))] [] M (x161 y6 M)) (M : fMem) : GM l p e s m args below meth c D aC ad 10 2 46 2 154 [(0, .ref (ad 115)), (1, .long (fL a1)), (3, .long (fL a3)), (5, .int (fI a5)), (6, .int (fI a6)), (7, .int (fI a7)), (8, .int (fI a8)), (9, .int (fI a9))] [.int (fI as0), .int (fI as1), .ref (ad 132)] M (dn_X6_fill_J154 r x161 a1 a3 a5 a6 a7 a8 a9 as0 as1 M) := by
  unfold dn_X6_fill_J154
  refine g_iast hC 155 tb_MD_17 (by decide) dX6_fill_154 rfl (fun M15 => ?_)
  refine g_iinc hC 4 158 [(6, .int (fI (a6 + (-1)))), (0, .ref (ad 115)), (1, .long (fL a1)), (3, .long (fL a3)), (5, .int (fI a5)), (7, .int (fI a7)), (8, .int (fI a8)), (9, .int (fI a9))] rfl dX6_fill_155 (by decide) rfl rfl ?_
  refine g_goto hC 46 dX6_fill_158 rfl ?_
  refine g_lv [1, 2, 3, 4, 0] rfl ?_
  exact hrc _ _
def dn_X6_fill_L46B  (a1 a3 a5 : Int) (r : Int → fMem → fOp) (x161 : Int → fMem → fOp) (a6 : Int) (M : fMem) : fOp :=
  fLt a6 0 (x161 a6 M) (fRd M 132 169 (((13 * a5) + 13) + a6) (fun x8 => fRd M 132 169 (((13 * a5) + a6) + 1) (fun x9 => fRd M 132 169 ((((13 * a5) + 13) + a6) + 1) (fun x10 => fCl (dn_X6_lineOf a1 a5 M) (fun v11 M12 => fCl (dn_X6_lineOf a3 a6 M12) (fun v13 M14 => fEq v11 v13 (dn_X6_fill_J154 r x161 a1 a3 a5 a6 x8 x9 (1 + x10) (1 + x10) ((13 * a5) + a6) M14) (fLe x8 x9 (dn_X6_fill_J154 r x161 a1 a3 a5 a6 x8 x9 (1 + x10) x9 ((13 * a5) + a6) M14) (dn_X6_fill_J154 r x161 a1 a3 a5 a6 x8 x9 (1 + x10) x8 ((13 * a5) + a6) M14))))))))
def dn_X6_fill_L46  (a1 a3 a5 : Int) (x161 : Int → fMem → fOp) : Nat → Int → fMem → fOp
  | 0, _, _ => none
  | n + 1, a6, M => dn_X6_fill_L46B a1 a3 a5 (fun a6 M => dn_X6_fill_L46 a1 a3 a5 x161 n a6 M) x161 a6 M
set_option maxRecDepth 100000 in
set_option maxHeartbeats 4000000 in
theorem wk_X6_fill_L46B {l : Launch} {p : Program} {e : Env} {s : State} {m : MethodId} {args : Array Value} {below : List Frame} {meth : Method} {c : Code} {D : va_G} {aC : Nat → ClassId} {ad : Nat → Nat} (hC : fCx p s m args c vwCl D aC TB ad (fFr ad TB) goodTs cX6_fill RX6 10) (hr : meth.sig.returnType = none) (hk : meth.locks = false) (a1 a3 a5 : Int) (r : Int → fMem → fOp) (hrc : ∀ (a6 : Int) (M : fMem), GM l p e s m args below meth c D aC ad 10 2 46 2 46 [(0, .ref (ad 115)), (1, .long (fL a1)), (3, .long (fL a3)), (5, .int (fI a5)), (6, .int (fI a6))] [] M (r a6 M)) (x161 : Int → fMem → fOp) (hx161 : ∀ (y6 : Int) (M : fMem), GM l p e s m args below meth c D aC ad 10 2 46 2 161 [(0, .ref (ad 115)), (1, .long (fL a1)), (3, .long (fL a3)), (5, .int (fI a5)), (6, .int (fI y6))] [] M (x161 y6 M)) (a6 : Int) (M : fMem) : GM l p e s m args below meth c D aC ad 10 2 46 2 46 [(0, .ref (ad 115)), (1, .long (fL a1)), (3, .long (fL a3)), (5, .int (fI a5)), (6, .int (fI a6))] [] M (dn_X6_fill_L46B a1 a3 a5 r x161 a6 M) := by
  unfold dn_X6_fill_L46B
  refine g_iload hC 4 48 rfl dX6_fill_46 rfl ?_
  refine g_if_lt hC 161 51 dX6_fill_48 rfl rfl ?_ ?_
  · exact hx161 _ _
  · refine g_aload_n hC 0 52 rfl dX6_fill_51 rfl rfl ?_
    refine g_getA hC 55 inX6 rfl 16 (by decide) gw_543 rfl tb_MD rfl dX6_fill_52 rfl ?_
    refine g_bipush hC 57 dX6_fill_55 rfl (by decide +kernel) ?_
    refine g_iload hC 3 59 rfl dX6_fill_57 rfl ?_
    refine g_imul hC 60 dX6_fill_59 rfl ?_
    refine g_bipush hC 62 dX6_fill_60 rfl (by decide +kernel) ?_
    refine g_iadd hC 63 dX6_fill_62 rfl ?_
    refine g_iload hC 4 65 rfl dX6_fill_63 rfl ?_
    refine g_iadd hC 66 dX6_fill_65 rfl ?_
    refine g_iald hC 67 tb_MD_17 (by decide) dX6_fill_66 rfl (fun x8 => ?_)
    refine g_istore hC 69 [(7, .int (fI x8)), (0, .ref (ad 115)), (1, .long (fL a1)), (3, .long (fL a3)), (5, .int (fI a5)), (6, .int (fI a6))] dX6_fill_67 (by decide) rfl rfl ?_
    refine g_aload_n hC 1 70 rfl dX6_fill_69 rfl rfl ?_
    refine g_getA hC 73 inX6 rfl 16 (by decide) gw_543 rfl tb_MD rfl dX6_fill_70 rfl ?_
    refine g_bipush hC 75 dX6_fill_73 rfl (by decide +kernel) ?_
    refine g_iload hC 4 77 rfl dX6_fill_75 rfl ?_
    refine g_imul hC 78 dX6_fill_77 rfl ?_
    refine g_iload hC 5 80 rfl dX6_fill_78 rfl ?_
    refine g_iadd hC 81 dX6_fill_80 rfl ?_
    refine g_iconst hC 82 dX6_fill_81 rfl ?_
    refine g_iadd hC 83 dX6_fill_82 rfl ?_
    refine g_iald hC 84 tb_MD_17 (by decide) dX6_fill_83 rfl (fun x9 => ?_)
    refine g_istore hC 86 [(8, .int (fI x9)), (7, .int (fI x8)), (0, .ref (ad 115)), (1, .long (fL a1)), (3, .long (fL a3)), (5, .int (fI a5)), (6, .int (fI a6))] dX6_fill_84 (by decide) rfl rfl ?_
    refine g_iconst hC 87 dX6_fill_86 rfl ?_
    refine g_aload_n hC 2 88 rfl dX6_fill_87 rfl rfl ?_
    refine g_getA hC 91 inX6 rfl 16 (by decide) gw_543 rfl tb_MD rfl dX6_fill_88 rfl ?_
    refine g_bipush hC 93 dX6_fill_91 rfl (by decide +kernel) ?_
    refine g_iload hC 5 95 rfl dX6_fill_93 rfl ?_
    refine g_imul hC 96 dX6_fill_95 rfl ?_
    refine g_bipush hC 98 dX6_fill_96 rfl (by decide +kernel) ?_
    refine g_iadd hC 99 dX6_fill_98 rfl ?_
    refine g_iload hC 6 101 rfl dX6_fill_99 rfl ?_
    refine g_iadd hC 102 dX6_fill_101 rfl ?_
    refine g_iconst hC 103 dX6_fill_102 rfl ?_
    refine g_iadd hC 104 dX6_fill_103 rfl ?_
    refine g_iald hC 105 tb_MD_17 (by decide) dX6_fill_104 rfl (fun x10 => ?_)
    refine g_iadd hC 106 dX6_fill_105 rfl ?_
    refine g_istore hC 108 [(9, .int (fI (1 + x10))), (8, .int (fI x9)), (7, .int (fI x8)), (0, .ref (ad 115)), (1, .long (fL a1)), (3, .long (fL a3)), (5, .int (fI a5)), (6, .int (fI a6))] dX6_fill_106 (by decide) rfl rfl ?_
    refine g_aload_n hC 3 109 rfl dX6_fill_108 rfl rfl ?_
    refine g_getA hC 112 inX6 rfl 16 (by decide) gw_543 rfl tb_MD rfl dX6_fill_109 rfl ?_
    refine g_bipush hC 114 dX6_fill_112 rfl (by decide +kernel) ?_
    refine g_iload hC 6 116 rfl dX6_fill_114 rfl ?_
    refine g_imul hC 117 dX6_fill_116 rfl ?_
    refine g_iload hC 7 119 rfl dX6_fill_117 rfl ?_
    refine g_iadd hC 120 dX6_fill_119 rfl ?_
    refine g_lload_n hC 4 121 rfl dX6_fill_120 rfl rfl ?_
    refine g_iload hC 6 123 rfl dX6_fill_121 rfl ?_
    refine g_cS hC 126 2 [.long (fL a1), .int (fI a5)] [.int (fI ((13 * a5) + a6)), .ref (ad 132)] (cn_X6_lineOf l a1 a5 _) rfl rfl gw_611 gw_613 gw_65 gw_612 (by decide +kernel) rfl ⟨Nat.le_of_ble_eq_true rfl, Nat.le_of_ble_eq_true rfl⟩ (Nat.le_of_ble_eq_true rfl) ⟨Nat.zero_le _, Nat.zero_le _⟩ dX6_fill_123 rfl (fun v11 => .int (fI v11) :: [.int (fI ((13 * a5) + a6)), .ref (ad 132)]) (fun _ => rfl) (fun v11 M12 => ?_)
    refine g_lload_n hC 5 127 rfl dX6_fill_126 rfl rfl ?_
    refine g_iload hC 7 129 rfl dX6_fill_127 rfl ?_
    refine g_cS hC 132 2 [.long (fL a3), .int (fI a6)] [.int (fI v11), .int (fI ((13 * a5) + a6)), .ref (ad 132)] (cn_X6_lineOf l a3 a6 _) rfl rfl gw_611 gw_613 gw_65 gw_612 (by decide +kernel) rfl ⟨Nat.le_of_ble_eq_true rfl, Nat.le_of_ble_eq_true rfl⟩ (Nat.le_of_ble_eq_true rfl) ⟨Nat.zero_le _, Nat.zero_le _⟩ dX6_fill_129 rfl (fun v13 => .int (fI v13) :: [.int (fI v11), .int (fI ((13 * a5) + a6)), .ref (ad 132)]) (fun _ => rfl) (fun v13 M14 => ?_)
    refine g_icmp_ne hC 140 135 dX6_fill_132 rfl rfl ?_ ?_
    · refine g_iload hC 2 142 rfl dX6_fill_140 rfl ?_
      refine g_iload hC 1 144 rfl dX6_fill_142 rfl ?_
      refine g_icmp_le hC 152 147 dX6_fill_144 rfl rfl ?_ ?_
      · refine g_iload hC 1 154 rfl dX6_fill_152 rfl ?_
        refine g_lv [3, 4, 5, 6, 7, 2, 1, 0] rfl ?_
        exact wk_X6_fill_J154 hC hr hk _ _ _ _ _ _ _ _ _ _ hrc _ hx161 _
      · refine g_iload hC 2 149 rfl dX6_fill_147 rfl ?_
        refine g_goto hC 154 dX6_fill_149 rfl ?_
        refine g_lv [3, 4, 5, 6, 7, 2, 1, 0] rfl ?_
        exact wk_X6_fill_J154 hC hr hk _ _ _ _ _ _ _ _ _ _ hrc _ hx161 _
    · refine g_iload hC 0 137 rfl dX6_fill_135 rfl ?_
      refine g_goto hC 154 dX6_fill_137 rfl ?_
      refine g_lv [3, 4, 5, 6, 7, 2, 1, 0] rfl ?_
      exact wk_X6_fill_J154 hC hr hk _ _ _ _ _ _ _ _ _ _ hrc _ hx161 _
set_option maxRecDepth 100000 in
set_option maxHeartbeats 4000000 in
theorem wk_X6_fill_L46 {l : Launch} {p : Program} {e : Env} {s : State} {m : MethodId} {args : Array Value} {below : List Frame} {meth : Method} {c : Code} {D : va_G} {aC : Nat → ClassId} {ad : Nat → Nat} (hC : fCx p s m args c vwCl D aC TB ad (fFr ad TB) goodTs cX6_fill RX6 10) (hr : meth.sig.returnType = none) (hk : meth.locks = false) (a1 a3 a5 : Int) (x161 : Int → fMem → fOp) (hx161 : ∀ (y6 : Int) (M : fMem), GM l p e s m args below meth c D aC ad 10 2 46 2 161 [(0, .ref (ad 115)), (1, .long (fL a1)), (3, .long (fL a3)), (5, .int (fI a5)), (6, .int (fI y6))] [] M (x161 y6 M)) (n : Nat) : ∀ (a6 : Int) (M : fMem), GM l p e s m args below meth c D aC ad 10 2 46 2 46 [(0, .ref (ad 115)), (1, .long (fL a1)), (3, .long (fL a3)), (5, .int (fI a5)), (6, .int (fI a6))] [] M (dn_X6_fill_L46 a1 a3 a5 x161 n a6 M) := by
  induction n with
  | zero => intro a6 M; exact g_none
  | succ n ih => intro a6 M; exact wk_X6_fill_L46B hC hr hk a1 a3 a5 (fun a6 M => dn_X6_fill_L46 a1 a3 a5 x161 n a6 M) ih x161 hx161 a6 M
def dn_X6_fill_L33B  (a1 a3 : Int) (r : Int → fMem → fOp) (a5 : Int) (M : fMem) : fOp :=
  fLt a5 0 (some (0, M)) (fCl (dn_X6_size a3 M) (fun v6 M7 => dn_X6_fill_L46 a1 a3 a5 (fun y16 M17 => r (a5 + (-1)) M17) 600 (v6 - 1) M7))
def dn_X6_fill_L33  (a1 a3 : Int) : Nat → Int → fMem → fOp
  | 0, _, _ => none
  | n + 1, a5, M => dn_X6_fill_L33B a1 a3 (fun a5 M => dn_X6_fill_L33 a1 a3 n a5 M) a5 M
set_option maxRecDepth 100000 in
set_option maxHeartbeats 4000000 in
theorem wk_X6_fill_L33B {l : Launch} {p : Program} {e : Env} {s : State} {m : MethodId} {args : Array Value} {below : List Frame} {meth : Method} {c : Code} {D : va_G} {aC : Nat → ClassId} {ad : Nat → Nat} (hC : fCx p s m args c vwCl D aC TB ad (fFr ad TB) goodTs cX6_fill RX6 10) (hr : meth.sig.returnType = none) (hk : meth.locks = false) (a1 a3 : Int) (r : Int → fMem → fOp) (hrc : ∀ (a5 : Int) (M : fMem), GM l p e s m args below meth c D aC ad 10 2 46 2 33 [(0, .ref (ad 115)), (1, .long (fL a1)), (3, .long (fL a3)), (5, .int (fI a5))] [] M (r a5 M)) (a5 : Int) (M : fMem) : GM l p e s m args below meth c D aC ad 10 2 46 2 33 [(0, .ref (ad 115)), (1, .long (fL a1)), (3, .long (fL a3)), (5, .int (fI a5))] [] M (dn_X6_fill_L33B a1 a3 r a5 M) := by
  unfold dn_X6_fill_L33B
  refine g_iload hC 3 35 rfl dX6_fill_33 rfl ?_
  refine g_if_lt hC 167 38 dX6_fill_35 rfl rfl ?_ ?_
  · exact g_return hC hr hk dX6_fill_167
  · refine g_lload_n hC 2 39 rfl dX6_fill_38 rfl rfl ?_
    refine g_cS hC 42 1 [.long (fL a3)] [] (cn_X6_size l a3 _) rfl rfl gw_607 gw_609 gw_65 gw_608 (by decide +kernel) rfl ⟨Nat.le_of_ble_eq_true rfl, Nat.le_of_ble_eq_true rfl⟩ (Nat.le_of_ble_eq_true rfl) ⟨Nat.zero_le _, Nat.zero_le _⟩ dX6_fill_39 rfl (fun v6 => .int (fI v6) :: []) (fun _ => rfl) (fun v6 M7 => ?_)
    refine g_iconst hC 43 dX6_fill_42 rfl ?_
    refine g_isub hC 44 dX6_fill_43 rfl ?_
    refine g_istore hC 46 [(6, .int (fI (v6 - 1))), (0, .ref (ad 115)), (1, .long (fL a1)), (3, .long (fL a3)), (5, .int (fI a5))] dX6_fill_44 (by decide) rfl rfl ?_
    refine g_lv [1, 2, 3, 4, 0] rfl ?_
    refine wk_X6_fill_L46 hC hr hk _ _ _ _ (fun y16 M17 => ?_) 600 _ _
    · refine g_iinc hC 3 164 [(5, .int (fI (a5 + (-1)))), (0, .ref (ad 115)), (1, .long (fL a1)), (3, .long (fL a3)), (6, .int (fI y16))] rfl dX6_fill_161 (by decide) rfl rfl ?_
      refine g_goto hC 33 dX6_fill_164 rfl ?_
      refine g_lv [1, 2, 3, 0] rfl ?_
      exact hrc _ _
set_option maxRecDepth 100000 in
set_option maxHeartbeats 4000000 in
theorem wk_X6_fill_L33 {l : Launch} {p : Program} {e : Env} {s : State} {m : MethodId} {args : Array Value} {below : List Frame} {meth : Method} {c : Code} {D : va_G} {aC : Nat → ClassId} {ad : Nat → Nat} (hC : fCx p s m args c vwCl D aC TB ad (fFr ad TB) goodTs cX6_fill RX6 10) (hr : meth.sig.returnType = none) (hk : meth.locks = false) (a1 a3 : Int) (n : Nat) : ∀ (a5 : Int) (M : fMem), GM l p e s m args below meth c D aC ad 10 2 46 2 33 [(0, .ref (ad 115)), (1, .long (fL a1)), (3, .long (fL a3)), (5, .int (fI a5))] [] M (dn_X6_fill_L33 a1 a3 n a5 M) := by
  induction n with
  | zero => intro a5 M; exact g_none
  | succ n ih => intro a5 M; exact wk_X6_fill_L33B hC hr hk a1 a3 (fun a5 M => dn_X6_fill_L33 a1 a3 n a5 M) ih a5 M
def dn_X6_fill (a1 : Int) (a3 : Int) (M : fMem) : fOp :=
  dn_X6_fill_L3 a1 a3 (fun y2 M3 => fCl (dn_X6_size a1 M3) (fun v4 M5 => dn_X6_fill_L33 a1 a3 600 (v4 - 1) M5)) 600 0 M
set_option maxRecDepth 100000 in
set_option maxHeartbeats 4000000 in
theorem wk_X6_fill {l : Launch} {p : Program} {e : Env} {s : State} {m : MethodId} {args : Array Value} {below : List Frame} {meth : Method} {c : Code} {D : va_G} {aC : Nat → ClassId} {ad : Nat → Nat} (hC : fCx p s m args c vwCl D aC TB ad (fFr ad TB) goodTs cX6_fill RX6 10) (hr : meth.sig.returnType = none) (hk : meth.locks = false) (a1 : Int) (a3 : Int) (M : fMem) : GM l p e s m args below meth c D aC ad 10 2 46 2 0 [(0, .ref (ad 115)), (1, .long (fL a1)), (3, .long (fL a3))] [] M (dn_X6_fill a1 a3 M) := by
  unfold dn_X6_fill
  refine g_iconst hC 1 dX6_fill_0 rfl ?_
  refine g_istore hC 3 [(5, .int (fI 0)), (0, .ref (ad 115)), (1, .long (fL a1)), (3, .long (fL a3))] dX6_fill_1 (by decide) rfl rfl ?_
  refine g_lv [1, 2, 3, 0] rfl ?_
  refine wk_X6_fill_L3 hC hr hk _ _ _ (fun y2 M3 => ?_) 600 _ _
  · refine g_lload_n hC 1 26 rfl dX6_fill_25 rfl rfl ?_
    refine g_cS hC 29 1 [.long (fL a1)] [] (cn_X6_size l a1 _) rfl rfl gw_607 gw_609 gw_65 gw_608 (by decide +kernel) rfl ⟨Nat.le_of_ble_eq_true rfl, Nat.le_of_ble_eq_true rfl⟩ (Nat.le_of_ble_eq_true rfl) ⟨Nat.zero_le _, Nat.zero_le _⟩ dX6_fill_26 rfl (fun v4 => .int (fI v4) :: []) (fun _ => rfl) (fun v4 M5 => ?_)
    refine g_iconst hC 30 dX6_fill_29 rfl ?_
    refine g_isub hC 31 dX6_fill_30 rfl ?_
    refine g_istore hC 33 [(5, .int (fI (v4 - 1))), (0, .ref (ad 115)), (1, .long (fL a1)), (3, .long (fL a3))] dX6_fill_31 (by decide) rfl rfl ?_
    refine g_lv [1, 2, 3, 0] rfl ?_
    refine wk_X6_fill_L33 hC hr hk _ _ 600 _ _
theorem cn_X6_fill (l : Launch) (a1 : Int) (a3 : Int) (M : fMem) : fMt l vwCl TB yX6_fill cX6_fill 10 (none) 2 46 2 (fun ad => [.ref (ad 115), .long (fL a1), .long (fL a3)]) M (dn_X6_fill a1 a3 M) :=
  fMt.of (by decide +kernel) (fun _ => Nat.le_of_ble_eq_true rfl) (fun p e s m args below meth c D aC ad hC hr hk => wk_X6_fill hC hr hk a1 a3 M)
def dn_X6_pairUp_J40  (r : Int → fMem → fOp) (x46 : Int → fMem → fOp) (a1 a3 a5 a6 : Int) (M : fMem) : fOp :=
  r (a6 + 1) M
set_option maxRecDepth 100000 in
set_option maxHeartbeats 4000000 in
theorem wk_X6_pairUp_J40 {l : Launch} {p : Program} {e : Env} {s : State} {m : MethodId} {args : Array Value} {below : List Frame} {meth : Method} {c : Code} {D : va_G} {aC : Nat → ClassId} {ad : Nat → Nat} (hC : fCx p s m args c vwCl D aC TB ad (fFr ad TB) goodTs cX6_pairUp RX6 8) (hr : meth.sig.returnType = none) (hk : meth.locks = false) (a1 a3 a5 a6 : Int)  (r : Int → fMem → fOp) (hrc : ∀ (z6 : Int) (M : fMem), GM l p e s m args below meth c D aC ad 8 3 75 2 9 [(0, .ref (ad 115)), (1, .long (fL a1)), (3, .long (fL a3)), (5, .int (fI a5)), (6, .int (fI z6))] [] M (r z6 M)) (x46 : Int → fMem → fOp) (hx46 : ∀ (y6 : Int) (M : fMem), GM l p e s m args below meth c D aC ad 8 3 75 2 46 [(0, .ref (ad 115)), (1, .long (fL a1)), (3, .long (fL a3)), (5, .int (fI a5)), (6, .int (fI y6))] [] M (x46 y6 M)) (M : fMem) : GM l p e s m args below meth c D aC ad 8 3 75 2 40 [(0, .ref (ad 115)), (1, .long (fL a1)), (3, .long (fL a3)), (5, .int (fI a5)), (6, .int (fI a6))] [] M (dn_X6_pairUp_J40 r x46 a1 a3 a5 a6 M) := by
  unfold dn_X6_pairUp_J40
  refine g_iinc hC 4 43 [(6, .int (fI (a6 + 1))), (0, .ref (ad 115)), (1, .long (fL a1)), (3, .long (fL a3)), (5, .int (fI a5))] rfl dX6_pairUp_40 (by decide) rfl rfl ?_
  refine g_goto hC 9 dX6_pairUp_43 rfl ?_
  refine g_lv [1, 2, 3, 4, 0] rfl ?_
  exact hrc _ _
def dn_X6_pairUp_L9B  (a1 a3 a5 : Int) (r : Int → fMem → fOp) (x46 : Int → fMem → fOp) (a6 : Int) (M : fMem) : fOp :=
  fLe 13 a6 (x46 a6 M) (fEq a5 0 (fWr M 134 13 a6 (-1) (fun M3 => dn_X6_pairUp_J40 r x46 a1 a3 a5 a6 M3)) (fWr M 133 13 a6 (-1) (fun M4 => dn_X6_pairUp_J40 r x46 a1 a3 a5 a6 M4)))
def dn_X6_pairUp_L9  (a1 a3 a5 : Int) (x46 : Int → fMem → fOp) : Nat → Int → fMem → fOp
  | 0, _, _ => none
  | n + 1, a6, M => dn_X6_pairUp_L9B a1 a3 a5 (fun a6 M => dn_X6_pairUp_L9 a1 a3 a5 x46 n a6 M) x46 a6 M
set_option maxRecDepth 100000 in
set_option maxHeartbeats 4000000 in
theorem wk_X6_pairUp_L9B {l : Launch} {p : Program} {e : Env} {s : State} {m : MethodId} {args : Array Value} {below : List Frame} {meth : Method} {c : Code} {D : va_G} {aC : Nat → ClassId} {ad : Nat → Nat} (hC : fCx p s m args c vwCl D aC TB ad (fFr ad TB) goodTs cX6_pairUp RX6 8) (hr : meth.sig.returnType = none) (hk : meth.locks = false) (a1 a3 a5 : Int) (r : Int → fMem → fOp) (hrc : ∀ (a6 : Int) (M : fMem), GM l p e s m args below meth c D aC ad 8 3 75 2 9 [(0, .ref (ad 115)), (1, .long (fL a1)), (3, .long (fL a3)), (5, .int (fI a5)), (6, .int (fI a6))] [] M (r a6 M)) (x46 : Int → fMem → fOp) (hx46 : ∀ (y6 : Int) (M : fMem), GM l p e s m args below meth c D aC ad 8 3 75 2 46 [(0, .ref (ad 115)), (1, .long (fL a1)), (3, .long (fL a3)), (5, .int (fI a5)), (6, .int (fI y6))] [] M (x46 y6 M)) (a6 : Int) (M : fMem) : GM l p e s m args below meth c D aC ad 8 3 75 2 9 [(0, .ref (ad 115)), (1, .long (fL a1)), (3, .long (fL a3)), (5, .int (fI a5)), (6, .int (fI a6))] [] M (dn_X6_pairUp_L9B a1 a3 a5 r x46 a6 M) := by
  unfold dn_X6_pairUp_L9B
  refine g_iload hC 4 11 rfl dX6_pairUp_9 rfl ?_
  refine g_bipush hC 13 dX6_pairUp_11 rfl (by decide +kernel) ?_
  refine g_icmp_ge hC 46 16 dX6_pairUp_13 rfl rfl ?_ ?_
  · exact hx46 _ _
  · refine g_iload hC 3 18 rfl dX6_pairUp_16 rfl ?_
    refine g_if_eq hC 32 21 dX6_pairUp_18 rfl rfl ?_ ?_
    · refine g_aload_n hC 0 33 rfl dX6_pairUp_32 rfl rfl ?_
      refine g_getA hC 36 inX6 rfl 18 (by decide) gw_545 rfl tb_MD rfl dX6_pairUp_33 rfl ?_
      refine g_iload hC 4 38 rfl dX6_pairUp_36 rfl ?_
      refine g_iconst hC 39 dX6_pairUp_38 rfl ?_
      refine g_iast hC 40 tb_MD_19 (by decide) dX6_pairUp_39 rfl (fun M3 => ?_)
      exact wk_X6_pairUp_J40 hC hr hk _ _ _ _ _ hrc _ hx46 _
    · refine g_aload_n hC 0 22 rfl dX6_pairUp_21 rfl rfl ?_
      refine g_getA hC 25 inX6 rfl 17 (by decide) gw_544 rfl tb_MD rfl dX6_pairUp_22 rfl ?_
      refine g_iload hC 4 27 rfl dX6_pairUp_25 rfl ?_
      refine g_iconst hC 28 dX6_pairUp_27 rfl ?_
      refine g_iast hC 29 tb_MD_18 (by decide) dX6_pairUp_28 rfl (fun M4 => ?_)
      refine g_goto hC 40 dX6_pairUp_29 rfl ?_
      exact wk_X6_pairUp_J40 hC hr hk _ _ _ _ _ hrc _ hx46 _
set_option maxRecDepth 100000 in
set_option maxHeartbeats 4000000 in
theorem wk_X6_pairUp_L9 {l : Launch} {p : Program} {e : Env} {s : State} {m : MethodId} {args : Array Value} {below : List Frame} {meth : Method} {c : Code} {D : va_G} {aC : Nat → ClassId} {ad : Nat → Nat} (hC : fCx p s m args c vwCl D aC TB ad (fFr ad TB) goodTs cX6_pairUp RX6 8) (hr : meth.sig.returnType = none) (hk : meth.locks = false) (a1 a3 a5 : Int) (x46 : Int → fMem → fOp) (hx46 : ∀ (y6 : Int) (M : fMem), GM l p e s m args below meth c D aC ad 8 3 75 2 46 [(0, .ref (ad 115)), (1, .long (fL a1)), (3, .long (fL a3)), (5, .int (fI a5)), (6, .int (fI y6))] [] M (x46 y6 M)) (n : Nat) : ∀ (a6 : Int) (M : fMem), GM l p e s m args below meth c D aC ad 8 3 75 2 9 [(0, .ref (ad 115)), (1, .long (fL a1)), (3, .long (fL a3)), (5, .int (fI a5)), (6, .int (fI a6))] [] M (dn_X6_pairUp_L9 a1 a3 a5 x46 n a6 M) := by
  induction n with
  | zero => intro a6 M; exact g_none
  | succ n ih => intro a6 M; exact wk_X6_pairUp_L9B hC hr hk a1 a3 a5 (fun a6 M => dn_X6_pairUp_L9 a1 a3 a5 x46 n a6 M) ih x46 hx46 a6 M
def dn_X6_pairUp_J111  (r : Int → Int → fMem → fOp) (a1 a3 a5 a6 a7 : Int) (M : fMem) : fOp :=
  r (a6 + 1) (a7 + 1) M
set_option maxRecDepth 100000 in
set_option maxHeartbeats 4000000 in
theorem wk_X6_pairUp_J111 {l : Launch} {p : Program} {e : Env} {s : State} {m : MethodId} {args : Array Value} {below : List Frame} {meth : Method} {c : Code} {D : va_G} {aC : Nat → ClassId} {ad : Nat → Nat} (hC : fCx p s m args c vwCl D aC TB ad (fFr ad TB) goodTs cX6_pairUp RX6 8) (hr : meth.sig.returnType = none) (hk : meth.locks = false) (a1 a3 a5 a6 a7 : Int)  (r : Int → Int → fMem → fOp) (hrc : ∀ (z6 z7 : Int) (M : fMem), GM l p e s m args below meth c D aC ad 8 3 75 2 52 [(0, .ref (ad 115)), (1, .long (fL a1)), (3, .long (fL a3)), (5, .int (fI a5)), (6, .int (fI z6)), (7, .int (fI z7))] [] M (r z6 z7 M)) (M : fMem) : GM l p e s m args below meth c D aC ad 8 3 75 2 111 [(0, .ref (ad 115)), (1, .long (fL a1)), (3, .long (fL a3)), (5, .int (fI a5)), (6, .int (fI a6)), (7, .int (fI a7))] [] M (dn_X6_pairUp_J111 r a1 a3 a5 a6 a7 M) := by
  unfold dn_X6_pairUp_J111
  refine g_iinc hC 4 114 [(6, .int (fI (a6 + 1))), (0, .ref (ad 115)), (1, .long (fL a1)), (3, .long (fL a3)), (5, .int (fI a5)), (7, .int (fI a7))] rfl dX6_pairUp_111 (by decide) rfl rfl ?_
  refine g_iinc hC 5 117 [(7, .int (fI (a7 + 1))), (6, .int (fI (a6 + 1))), (0, .ref (ad 115)), (1, .long (fL a1)), (3, .long (fL a3)), (5, .int (fI a5))] rfl dX6_pairUp_114 (by decide) rfl rfl ?_
  refine g_goto hC 52 dX6_pairUp_117 rfl ?_
  refine g_lv [2, 3, 4, 5, 1, 0] rfl ?_
  exact hrc _ _ _
def dn_X6_pairUp_L52B  (a1 a3 a5 : Int) (r : Int → Int → fMem → fOp) (a6 a7 : Int) (M : fMem) : fOp :=
  fCl (dn_X6_size a1 M) (fun v7 M8 => fLe v7 a6 (some (0, M8)) (fCl (dn_X6_size a3 M8) (fun v9 M10 => fLe v9 a7 (some (0, M10)) (fCl (dn_X6_lineOf a1 a6 M10) (fun v11 M12 => fCl (dn_X6_lineOf a3 a7 M12) (fun v13 M14 => fEq v11 v13 (fEq a5 0 (fWr M14 134 13 a6 a7 (fun M17 => dn_X6_pairUp_J111 r a1 a3 a5 a6 a7 M17)) (fWr M14 133 13 a6 a7 (fun M18 => dn_X6_pairUp_J111 r a1 a3 a5 a6 a7 M18))) (fRd M14 132 169 (((13 * a6) + 13) + a7) (fun x15 => fRd M14 132 169 (((13 * a6) + a7) + 1) (fun x16 => fLt x15 x16 (r a6 (a7 + 1) M14) (r (a6 + 1) a7 M14))))))))))
def dn_X6_pairUp_L52  (a1 a3 a5 : Int) : Nat → Int → Int → fMem → fOp
  | 0, _, _, _ => none
  | n + 1, a6, a7, M => dn_X6_pairUp_L52B a1 a3 a5 (fun a6 a7 M => dn_X6_pairUp_L52 a1 a3 a5 n a6 a7 M) a6 a7 M
set_option maxRecDepth 100000 in
set_option maxHeartbeats 4000000 in
theorem wk_X6_pairUp_L52B {l : Launch} {p : Program} {e : Env} {s : State} {m : MethodId} {args : Array Value} {below : List Frame} {meth : Method} {c : Code} {D : va_G} {aC : Nat → ClassId} {ad : Nat → Nat} (hC : fCx p s m args c vwCl D aC TB ad (fFr ad TB) goodTs cX6_pairUp RX6 8) (hr : meth.sig.returnType = none) (hk : meth.locks = false) (a1 a3 a5 : Int) (r : Int → Int → fMem → fOp) (hrc : ∀ (a6 a7 : Int) (M : fMem), GM l p e s m args below meth c D aC ad 8 3 75 2 52 [(0, .ref (ad 115)), (1, .long (fL a1)), (3, .long (fL a3)), (5, .int (fI a5)), (6, .int (fI a6)), (7, .int (fI a7))] [] M (r a6 a7 M)) (a6 a7 : Int) (M : fMem) : GM l p e s m args below meth c D aC ad 8 3 75 2 52 [(0, .ref (ad 115)), (1, .long (fL a1)), (3, .long (fL a3)), (5, .int (fI a5)), (6, .int (fI a6)), (7, .int (fI a7))] [] M (dn_X6_pairUp_L52B a1 a3 a5 r a6 a7 M) := by
  unfold dn_X6_pairUp_L52B
  refine g_iload hC 4 54 rfl dX6_pairUp_52 rfl ?_
  refine g_lload_n hC 1 55 rfl dX6_pairUp_54 rfl rfl ?_
  refine g_cS hC 58 1 [.long (fL a1)] [.int (fI a6)] (cn_X6_size l a1 _) rfl rfl gw_607 gw_609 gw_65 gw_608 (by decide +kernel) rfl ⟨Nat.le_of_ble_eq_true rfl, Nat.le_of_ble_eq_true rfl⟩ (Nat.le_of_ble_eq_true rfl) ⟨Nat.zero_le _, Nat.zero_le _⟩ dX6_pairUp_55 rfl (fun v7 => .int (fI v7) :: [.int (fI a6)]) (fun _ => rfl) (fun v7 M8 => ?_)
  refine g_icmp_ge hC 166 61 dX6_pairUp_58 rfl rfl ?_ ?_
  · exact g_return hC hr hk dX6_pairUp_166
  · refine g_iload hC 5 63 rfl dX6_pairUp_61 rfl ?_
    refine g_lload_n hC 2 64 rfl dX6_pairUp_63 rfl rfl ?_
    refine g_cS hC 67 1 [.long (fL a3)] [.int (fI a7)] (cn_X6_size l a3 _) rfl rfl gw_607 gw_609 gw_65 gw_608 (by decide +kernel) rfl ⟨Nat.le_of_ble_eq_true rfl, Nat.le_of_ble_eq_true rfl⟩ (Nat.le_of_ble_eq_true rfl) ⟨Nat.zero_le _, Nat.zero_le _⟩ dX6_pairUp_64 rfl (fun v9 => .int (fI v9) :: [.int (fI a7)]) (fun _ => rfl) (fun v9 M10 => ?_)
    refine g_icmp_ge hC 166 70 dX6_pairUp_67 rfl rfl ?_ ?_
    · exact g_return hC hr hk dX6_pairUp_166
    · refine g_lload_n hC 1 71 rfl dX6_pairUp_70 rfl rfl ?_
      refine g_iload hC 4 73 rfl dX6_pairUp_71 rfl ?_
      refine g_cS hC 76 2 [.long (fL a1), .int (fI a6)] [] (cn_X6_lineOf l a1 a6 _) rfl rfl gw_611 gw_613 gw_65 gw_612 (by decide +kernel) rfl ⟨Nat.le_of_ble_eq_true rfl, Nat.le_of_ble_eq_true rfl⟩ (Nat.le_of_ble_eq_true rfl) ⟨Nat.zero_le _, Nat.zero_le _⟩ dX6_pairUp_73 rfl (fun v11 => .int (fI v11) :: []) (fun _ => rfl) (fun v11 M12 => ?_)
      refine g_lload_n hC 2 77 rfl dX6_pairUp_76 rfl rfl ?_
      refine g_iload hC 5 79 rfl dX6_pairUp_77 rfl ?_
      refine g_cS hC 82 2 [.long (fL a3), .int (fI a7)] [.int (fI v11)] (cn_X6_lineOf l a3 a7 _) rfl rfl gw_611 gw_613 gw_65 gw_612 (by decide +kernel) rfl ⟨Nat.le_of_ble_eq_true rfl, Nat.le_of_ble_eq_true rfl⟩ (Nat.le_of_ble_eq_true rfl) ⟨Nat.zero_le _, Nat.zero_le _⟩ dX6_pairUp_79 rfl (fun v13 => .int (fI v13) :: [.int (fI v11)]) (fun _ => rfl) (fun v13 M14 => ?_)
      refine g_icmp_ne hC 120 85 dX6_pairUp_82 rfl rfl ?_ ?_
      · refine g_aload_n hC 0 121 rfl dX6_pairUp_120 rfl rfl ?_
        refine g_getA hC 124 inX6 rfl 16 (by decide) gw_543 rfl tb_MD rfl dX6_pairUp_121 rfl ?_
        refine g_bipush hC 126 dX6_pairUp_124 rfl (by decide +kernel) ?_
        refine g_iload hC 4 128 rfl dX6_pairUp_126 rfl ?_
        refine g_imul hC 129 dX6_pairUp_128 rfl ?_
        refine g_bipush hC 131 dX6_pairUp_129 rfl (by decide +kernel) ?_
        refine g_iadd hC 132 dX6_pairUp_131 rfl ?_
        refine g_iload hC 5 134 rfl dX6_pairUp_132 rfl ?_
        refine g_iadd hC 135 dX6_pairUp_134 rfl ?_
        refine g_iald hC 136 tb_MD_17 (by decide) dX6_pairUp_135 rfl (fun x15 => ?_)
        refine g_aload_n hC 0 137 rfl dX6_pairUp_136 rfl rfl ?_
        refine g_getA hC 140 inX6 rfl 16 (by decide) gw_543 rfl tb_MD rfl dX6_pairUp_137 rfl ?_
        refine g_bipush hC 142 dX6_pairUp_140 rfl (by decide +kernel) ?_
        refine g_iload hC 4 144 rfl dX6_pairUp_142 rfl ?_
        refine g_imul hC 145 dX6_pairUp_144 rfl ?_
        refine g_iload hC 5 147 rfl dX6_pairUp_145 rfl ?_
        refine g_iadd hC 148 dX6_pairUp_147 rfl ?_
        refine g_iconst hC 149 dX6_pairUp_148 rfl ?_
        refine g_iadd hC 150 dX6_pairUp_149 rfl ?_
        refine g_iald hC 151 tb_MD_17 (by decide) dX6_pairUp_150 rfl (fun x16 => ?_)
        refine g_icmp_lt hC 160 154 dX6_pairUp_151 rfl rfl ?_ ?_
        · refine g_iinc hC 5 163 [(7, .int (fI (a7 + 1))), (0, .ref (ad 115)), (1, .long (fL a1)), (3, .long (fL a3)), (5, .int (fI a5)), (6, .int (fI a6))] rfl dX6_pairUp_160 (by decide) rfl rfl ?_
          refine g_goto hC 52 dX6_pairUp_163 rfl ?_
          refine g_lv [1, 2, 3, 4, 5, 0] rfl ?_
          exact hrc _ _ _
        · refine g_iinc hC 4 157 [(6, .int (fI (a6 + 1))), (0, .ref (ad 115)), (1, .long (fL a1)), (3, .long (fL a3)), (5, .int (fI a5)), (7, .int (fI a7))] rfl dX6_pairUp_154 (by decide) rfl rfl ?_
          refine g_goto hC 52 dX6_pairUp_157 rfl ?_
          refine g_lv [1, 2, 3, 4, 0, 5] rfl ?_
          exact hrc _ _ _
      · refine g_iload hC 3 87 rfl dX6_pairUp_85 rfl ?_
        refine g_if_eq hC 102 90 dX6_pairUp_87 rfl rfl ?_ ?_
        · refine g_aload_n hC 0 103 rfl dX6_pairUp_102 rfl rfl ?_
          refine g_getA hC 106 inX6 rfl 18 (by decide) gw_545 rfl tb_MD rfl dX6_pairUp_103 rfl ?_
          refine g_iload hC 4 108 rfl dX6_pairUp_106 rfl ?_
          refine g_iload hC 5 110 rfl dX6_pairUp_108 rfl ?_
          refine g_iast hC 111 tb_MD_19 (by decide) dX6_pairUp_110 rfl (fun M17 => ?_)
          exact wk_X6_pairUp_J111 hC hr hk _ _ _ _ _ _ hrc _
        · refine g_aload_n hC 0 91 rfl dX6_pairUp_90 rfl rfl ?_
          refine g_getA hC 94 inX6 rfl 17 (by decide) gw_544 rfl tb_MD rfl dX6_pairUp_91 rfl ?_
          refine g_iload hC 4 96 rfl dX6_pairUp_94 rfl ?_
          refine g_iload hC 5 98 rfl dX6_pairUp_96 rfl ?_
          refine g_iast hC 99 tb_MD_18 (by decide) dX6_pairUp_98 rfl (fun M18 => ?_)
          refine g_goto hC 111 dX6_pairUp_99 rfl ?_
          exact wk_X6_pairUp_J111 hC hr hk _ _ _ _ _ _ hrc _
set_option maxRecDepth 100000 in
set_option maxHeartbeats 4000000 in
theorem wk_X6_pairUp_L52 {l : Launch} {p : Program} {e : Env} {s : State} {m : MethodId} {args : Array Value} {below : List Frame} {meth : Method} {c : Code} {D : va_G} {aC : Nat → ClassId} {ad : Nat → Nat} (hC : fCx p s m args c vwCl D aC TB ad (fFr ad TB) goodTs cX6_pairUp RX6 8) (hr : meth.sig.returnType = none) (hk : meth.locks = false) (a1 a3 a5 : Int) (n : Nat) : ∀ (a6 a7 : Int) (M : fMem), GM l p e s m args below meth c D aC ad 8 3 75 2 52 [(0, .ref (ad 115)), (1, .long (fL a1)), (3, .long (fL a3)), (5, .int (fI a5)), (6, .int (fI a6)), (7, .int (fI a7))] [] M (dn_X6_pairUp_L52 a1 a3 a5 n a6 a7 M) := by
  induction n with
  | zero => intro a6 a7 M; exact g_none
  | succ n ih => intro a6 a7 M; exact wk_X6_pairUp_L52B hC hr hk a1 a3 a5 (fun a6 a7 M => dn_X6_pairUp_L52 a1 a3 a5 n a6 a7 M) ih a6 a7 M
def dn_X6_pairUp (a1 : Int) (a3 : Int) (a5 : Int) (M : fMem) : fOp :=
  fCl (dn_X6_fill a1 a3 M) (fun _ M2 => dn_X6_pairUp_L9 a1 a3 a5 (fun y5 M6 => dn_X6_pairUp_L52 a1 a3 a5 600 0 0 M6) 600 0 M2)
set_option maxRecDepth 100000 in
set_option maxHeartbeats 4000000 in
theorem wk_X6_pairUp {l : Launch} {p : Program} {e : Env} {s : State} {m : MethodId} {args : Array Value} {below : List Frame} {meth : Method} {c : Code} {D : va_G} {aC : Nat → ClassId} {ad : Nat → Nat} (hC : fCx p s m args c vwCl D aC TB ad (fFr ad TB) goodTs cX6_pairUp RX6 8) (hr : meth.sig.returnType = none) (hk : meth.locks = false) (a1 : Int) (a3 : Int) (a5 : Int) (M : fMem) : GM l p e s m args below meth c D aC ad 8 3 75 2 0 [(0, .ref (ad 115)), (1, .long (fL a1)), (3, .long (fL a3)), (5, .int (fI a5))] [] M (dn_X6_pairUp a1 a3 a5 M) := by
  unfold dn_X6_pairUp
  refine g_aload_n hC 0 1 rfl dX6_pairUp_0 rfl rfl ?_
  refine g_lload_n hC 1 2 rfl dX6_pairUp_1 rfl rfl ?_
  refine g_lload_n hC 2 3 rfl dX6_pairUp_2 rfl rfl ?_
  refine g_cV hC 6 2 [.long (fL a1), .long (fL a3)] [] (cn_X6_fill l a1 a3 _) rfl rfl tb_MD rfl gw_686 gw_689 gw_65 gw_688 gw_49 (by decide +kernel) rfl ⟨Nat.le_of_ble_eq_true rfl, Nat.le_of_ble_eq_true rfl⟩ (Nat.le_of_ble_eq_true rfl) ⟨Nat.zero_le _, Nat.zero_le _⟩ dX6_pairUp_3 rfl (fun _ => []) (fun _ => rfl) (fun _ M2 => ?_)
  refine g_iconst hC 7 dX6_pairUp_6 rfl ?_
  refine g_istore hC 9 [(6, .int (fI 0)), (0, .ref (ad 115)), (1, .long (fL a1)), (3, .long (fL a3)), (5, .int (fI a5))] dX6_pairUp_7 (by decide) rfl rfl ?_
  refine g_lv [1, 2, 3, 4, 0] rfl ?_
  refine wk_X6_pairUp_L9 hC hr hk _ _ _ _ (fun y5 M6 => ?_) 600 _ _
  · refine g_iconst hC 47 dX6_pairUp_46 rfl ?_
    refine g_istore hC 49 [(6, .int (fI 0)), (0, .ref (ad 115)), (1, .long (fL a1)), (3, .long (fL a3)), (5, .int (fI a5))] dX6_pairUp_47 (by decide) rfl rfl ?_
    refine g_iconst hC 50 dX6_pairUp_49 rfl ?_
    refine g_istore hC 52 [(7, .int (fI 0)), (6, .int (fI 0)), (0, .ref (ad 115)), (1, .long (fL a1)), (3, .long (fL a3)), (5, .int (fI a5))] dX6_pairUp_50 (by decide) rfl rfl ?_
    refine g_lv [2, 3, 4, 5, 1, 0] rfl ?_
    refine wk_X6_pairUp_L52 hC hr hk _ _ _ 600 _ _ _
theorem cn_X6_pairUp (l : Launch) (a1 : Int) (a3 : Int) (a5 : Int) (M : fMem) : fMt l vwCl TB yX6_pairUp cX6_pairUp 8 (none) 3 75 2 (fun ad => [.ref (ad 115), .long (fL a1), .long (fL a3), .int (fI a5)]) M (dn_X6_pairUp a1 a3 a5 M) :=
  fMt.of (by decide +kernel) (fun _ => Nat.le_of_ble_eq_true rfl) (fun p e s m args below meth c D aC ad hC hr hk => wk_X6_pairUp hC hr hk a1 a3 a5 M)
def dn_X6_alike_J60  (r : Int → Int → fMem → fOp) (a0 a2 a3 a4 a6 a7 a8 a9 as0 : Int) (M : fMem) : fOp :=
  r as0 (a9 + 1) M
set_option maxRecDepth 100000 in
set_option maxHeartbeats 4000000 in
theorem wk_X6_alike_J60 {l : Launch} {p : Program} {e : Env} {s : State} {m : MethodId} {args : Array Value} {below : List Frame} {meth : Method} {c : Code} {D : va_G} {aC : Nat → ClassId} {ad : Nat → Nat} (hC : fCx p s m args c vwCl D aC TB ad (fFr ad TB) goodTs cX6_alike RX6 10) (hr : meth.sig.returnType = some .boolean) (hk : meth.locks = false) (a0 a2 a3 a4 a6 a7 a8 a9 as0 : Int)  (r : Int → Int → fMem → fOp) (hrc : ∀ (z8 z9 : Int) (M : fMem), GM l p e s m args below meth c D aC ad 10 2 46 0 21 [(0, .long (fL a0)), (2, .int (fI a2)), (3, .int (fI a3)), (4, .long (fL a4)), (6, .int (fI a6)), (7, .int (fI a7)), (8, .int (fI z8)), (9, .int (fI z9))] [] M (r z8 z9 M)) (M : fMem) : GM l p e s m args below meth c D aC ad 10 2 46 0 60 [(0, .long (fL a0)), (2, .int (fI a2)), (3, .int (fI a3)), (4, .long (fL a4)), (6, .int (fI a6)), (7, .int (fI a7)), (8, .int (fI a8)), (9, .int (fI a9))] [.int (fI as0)] M (dn_X6_alike_J60 r a0 a2 a3 a4 a6 a7 a8 a9 as0 M) := by
  unfold dn_X6_alike_J60
  refine g_istore hC 62 [(8, .int (fI as0)), (0, .long (fL a0)), (2, .int (fI a2)), (3, .int (fI a3)), (4, .long (fL a4)), (6, .int (fI a6)), (7, .int (fI a7)), (9, .int (fI a9))] dX6_alike_60 (by decide) rfl rfl ?_
  refine g_iinc hC 7 65 [(9, .int (fI (a9 + 1))), (8, .int (fI as0)), (0, .long (fL a0)), (2, .int (fI a2)), (3, .int (fI a3)), (4, .long (fL a4)), (6, .int (fI a6)), (7, .int (fI a7))] rfl dX6_alike_62 (by decide) rfl rfl ?_
  refine g_goto hC 21 dX6_alike_65 rfl ?_
  refine g_lv [2, 3, 4, 5, 6, 7, 1, 0] rfl ?_
  exact hrc _ _ _
def dn_X6_alike_L21B  (a0 a2 a3 a4 a6 a7 : Int) (r : Int → Int → fMem → fOp) (a8 a9 : Int) (M : fMem) : fOp :=
  fLe (a3 - a2) a9 (fRz a8 M) (fEq a8 0 (fRz a8 M) (fCl (dn_X6_lineOf a0 (a2 + a9) M) (fun v1 M2 => fCl (dn_X6_lineOf a4 (a6 + a9) M2) (fun v3 M4 => fEq v1 v3 (dn_X6_alike_J60 r a0 a2 a3 a4 a6 a7 a8 a9 1 M4) (dn_X6_alike_J60 r a0 a2 a3 a4 a6 a7 a8 a9 0 M4)))))
def dn_X6_alike_L21  (a0 a2 a3 a4 a6 a7 : Int) : Nat → Int → Int → fMem → fOp
  | 0, _, _, _ => none
  | n + 1, a8, a9, M => dn_X6_alike_L21B a0 a2 a3 a4 a6 a7 (fun a8 a9 M => dn_X6_alike_L21 a0 a2 a3 a4 a6 a7 n a8 a9 M) a8 a9 M
set_option maxRecDepth 100000 in
set_option maxHeartbeats 4000000 in
theorem wk_X6_alike_L21B {l : Launch} {p : Program} {e : Env} {s : State} {m : MethodId} {args : Array Value} {below : List Frame} {meth : Method} {c : Code} {D : va_G} {aC : Nat → ClassId} {ad : Nat → Nat} (hC : fCx p s m args c vwCl D aC TB ad (fFr ad TB) goodTs cX6_alike RX6 10) (hr : meth.sig.returnType = some .boolean) (hk : meth.locks = false) (a0 a2 a3 a4 a6 a7 : Int) (r : Int → Int → fMem → fOp) (hrc : ∀ (a8 a9 : Int) (M : fMem), GM l p e s m args below meth c D aC ad 10 2 46 0 21 [(0, .long (fL a0)), (2, .int (fI a2)), (3, .int (fI a3)), (4, .long (fL a4)), (6, .int (fI a6)), (7, .int (fI a7)), (8, .int (fI a8)), (9, .int (fI a9))] [] M (r a8 a9 M)) (a8 a9 : Int) (M : fMem) : GM l p e s m args below meth c D aC ad 10 2 46 0 21 [(0, .long (fL a0)), (2, .int (fI a2)), (3, .int (fI a3)), (4, .long (fL a4)), (6, .int (fI a6)), (7, .int (fI a7)), (8, .int (fI a8)), (9, .int (fI a9))] [] M (dn_X6_alike_L21B a0 a2 a3 a4 a6 a7 r a8 a9 M) := by
  unfold dn_X6_alike_L21B
  refine g_iload hC 7 23 rfl dX6_alike_21 rfl ?_
  refine g_iload_n hC 2 24 rfl dX6_alike_23 rfl rfl ?_
  refine g_iload_n hC 1 25 rfl dX6_alike_24 rfl rfl ?_
  refine g_isub hC 26 dX6_alike_25 rfl ?_
  refine g_icmp_ge hC 68 29 dX6_alike_26 rfl rfl ?_ ?_
  · refine g_iload hC 6 70 rfl dX6_alike_68 rfl ?_
    exact g_zreturn hC hr hk dX6_alike_70
  · refine g_iload hC 6 31 rfl dX6_alike_29 rfl ?_
    refine g_if_eq hC 68 34 dX6_alike_31 rfl rfl ?_ ?_
    · refine g_iload hC 6 70 rfl dX6_alike_68 rfl ?_
      exact g_zreturn hC hr hk dX6_alike_70
    · refine g_lload_n hC 0 35 rfl dX6_alike_34 rfl rfl ?_
      refine g_iload_n hC 1 36 rfl dX6_alike_35 rfl rfl ?_
      refine g_iload hC 7 38 rfl dX6_alike_36 rfl ?_
      refine g_iadd hC 39 dX6_alike_38 rfl ?_
      refine g_cS hC 42 2 [.long (fL a0), .int (fI (a2 + a9))] [] (cn_X6_lineOf l a0 (a2 + a9) _) rfl rfl gw_611 gw_613 gw_65 gw_612 (by decide +kernel) rfl ⟨Nat.le_of_ble_eq_true rfl, Nat.le_of_ble_eq_true rfl⟩ (Nat.le_of_ble_eq_true rfl) ⟨Nat.zero_le _, Nat.zero_le _⟩ dX6_alike_39 rfl (fun v1 => .int (fI v1) :: []) (fun _ => rfl) (fun v1 M2 => ?_)
      refine g_lload hC 3 44 rfl dX6_alike_42 rfl ?_
      refine g_iload hC 4 46 rfl dX6_alike_44 rfl ?_
      refine g_iload hC 7 48 rfl dX6_alike_46 rfl ?_
      refine g_iadd hC 49 dX6_alike_48 rfl ?_
      refine g_cS hC 52 2 [.long (fL a4), .int (fI (a6 + a9))] [.int (fI v1)] (cn_X6_lineOf l a4 (a6 + a9) _) rfl rfl gw_611 gw_613 gw_65 gw_612 (by decide +kernel) rfl ⟨Nat.le_of_ble_eq_true rfl, Nat.le_of_ble_eq_true rfl⟩ (Nat.le_of_ble_eq_true rfl) ⟨Nat.zero_le _, Nat.zero_le _⟩ dX6_alike_49 rfl (fun v3 => .int (fI v3) :: [.int (fI v1)]) (fun _ => rfl) (fun v3 M4 => ?_)
      refine g_icmp_ne hC 59 55 dX6_alike_52 rfl rfl ?_ ?_
      · refine g_iconst hC 60 dX6_alike_59 rfl ?_
        exact wk_X6_alike_J60 hC hr hk _ _ _ _ _ _ _ _ _ _ hrc _
      · refine g_iconst hC 56 dX6_alike_55 rfl ?_
        refine g_goto hC 60 dX6_alike_56 rfl ?_
        exact wk_X6_alike_J60 hC hr hk _ _ _ _ _ _ _ _ _ _ hrc _
set_option maxRecDepth 100000 in
set_option maxHeartbeats 4000000 in
theorem wk_X6_alike_L21 {l : Launch} {p : Program} {e : Env} {s : State} {m : MethodId} {args : Array Value} {below : List Frame} {meth : Method} {c : Code} {D : va_G} {aC : Nat → ClassId} {ad : Nat → Nat} (hC : fCx p s m args c vwCl D aC TB ad (fFr ad TB) goodTs cX6_alike RX6 10) (hr : meth.sig.returnType = some .boolean) (hk : meth.locks = false) (a0 a2 a3 a4 a6 a7 : Int) (n : Nat) : ∀ (a8 a9 : Int) (M : fMem), GM l p e s m args below meth c D aC ad 10 2 46 0 21 [(0, .long (fL a0)), (2, .int (fI a2)), (3, .int (fI a3)), (4, .long (fL a4)), (6, .int (fI a6)), (7, .int (fI a7)), (8, .int (fI a8)), (9, .int (fI a9))] [] M (dn_X6_alike_L21 a0 a2 a3 a4 a6 a7 n a8 a9 M) := by
  induction n with
  | zero => intro a8 a9 M; exact g_none
  | succ n ih => intro a8 a9 M; exact wk_X6_alike_L21B hC hr hk a0 a2 a3 a4 a6 a7 (fun a8 a9 M => dn_X6_alike_L21 a0 a2 a3 a4 a6 a7 n a8 a9 M) ih a8 a9 M
def dn_X6_alike_J16  (a0 a2 a3 a4 a6 a7 as0 : Int) (M : fMem) : fOp :=
  dn_X6_alike_L21 a0 a2 a3 a4 a6 a7 600 as0 0 M
set_option maxRecDepth 100000 in
set_option maxHeartbeats 4000000 in
theorem wk_X6_alike_J16 {l : Launch} {p : Program} {e : Env} {s : State} {m : MethodId} {args : Array Value} {below : List Frame} {meth : Method} {c : Code} {D : va_G} {aC : Nat → ClassId} {ad : Nat → Nat} (hC : fCx p s m args c vwCl D aC TB ad (fFr ad TB) goodTs cX6_alike RX6 10) (hr : meth.sig.returnType = some .boolean) (hk : meth.locks = false) (a0 a2 a3 a4 a6 a7 as0 : Int)  (M : fMem) : GM l p e s m args below meth c D aC ad 10 2 46 0 16 [(0, .long (fL a0)), (2, .int (fI a2)), (3, .int (fI a3)), (4, .long (fL a4)), (6, .int (fI a6)), (7, .int (fI a7))] [.int (fI as0)] M (dn_X6_alike_J16 a0 a2 a3 a4 a6 a7 as0 M) := by
  unfold dn_X6_alike_J16
  refine g_istore hC 18 [(8, .int (fI as0)), (0, .long (fL a0)), (2, .int (fI a2)), (3, .int (fI a3)), (4, .long (fL a4)), (6, .int (fI a6)), (7, .int (fI a7))] dX6_alike_16 (by decide) rfl rfl ?_
  refine g_iconst hC 19 dX6_alike_18 rfl ?_
  refine g_istore hC 21 [(9, .int (fI 0)), (8, .int (fI as0)), (0, .long (fL a0)), (2, .int (fI a2)), (3, .int (fI a3)), (4, .long (fL a4)), (6, .int (fI a6)), (7, .int (fI a7))] dX6_alike_19 (by decide) rfl rfl ?_
  refine g_lv [2, 3, 4, 5, 6, 7, 1, 0] rfl ?_
  refine wk_X6_alike_L21 hC hr hk _ _ _ _ _ _ 600 _ _ _
def dn_X6_alike (a0 : Int) (a2 : Int) (a3 : Int) (a4 : Int) (a6 : Int) (a7 : Int) (M : fMem) : fOp :=
  fEq (a3 - a2) (a7 - a6) (dn_X6_alike_J16 a0 a2 a3 a4 a6 a7 1 M) (dn_X6_alike_J16 a0 a2 a3 a4 a6 a7 0 M)
set_option maxRecDepth 100000 in
set_option maxHeartbeats 4000000 in
theorem wk_X6_alike {l : Launch} {p : Program} {e : Env} {s : State} {m : MethodId} {args : Array Value} {below : List Frame} {meth : Method} {c : Code} {D : va_G} {aC : Nat → ClassId} {ad : Nat → Nat} (hC : fCx p s m args c vwCl D aC TB ad (fFr ad TB) goodTs cX6_alike RX6 10) (hr : meth.sig.returnType = some .boolean) (hk : meth.locks = false) (a0 : Int) (a2 : Int) (a3 : Int) (a4 : Int) (a6 : Int) (a7 : Int) (M : fMem) : GM l p e s m args below meth c D aC ad 10 2 46 0 0 [(0, .long (fL a0)), (2, .int (fI a2)), (3, .int (fI a3)), (4, .long (fL a4)), (6, .int (fI a6)), (7, .int (fI a7))] [] M (dn_X6_alike a0 a2 a3 a4 a6 a7 M) := by
  unfold dn_X6_alike
  refine g_iload_n hC 2 1 rfl dX6_alike_0 rfl rfl ?_
  refine g_iload_n hC 1 2 rfl dX6_alike_1 rfl rfl ?_
  refine g_isub hC 3 dX6_alike_2 rfl ?_
  refine g_iload hC 5 5 rfl dX6_alike_3 rfl ?_
  refine g_iload hC 4 7 rfl dX6_alike_5 rfl ?_
  refine g_isub hC 8 dX6_alike_7 rfl ?_
  refine g_icmp_ne hC 15 11 dX6_alike_8 rfl rfl ?_ ?_
  · refine g_iconst hC 16 dX6_alike_15 rfl ?_
    exact wk_X6_alike_J16 hC hr hk _ _ _ _ _ _ _ _
  · refine g_iconst hC 12 dX6_alike_11 rfl ?_
    refine g_goto hC 16 dX6_alike_12 rfl ?_
    exact wk_X6_alike_J16 hC hr hk _ _ _ _ _ _ _ _
theorem cn_X6_alike (l : Launch) (a0 : Int) (a2 : Int) (a3 : Int) (a4 : Int) (a6 : Int) (a7 : Int) (M : fMem) : fMt l vwCl TB yX6_alike cX6_alike 10 (some .boolean) 2 46 0 (fun ad => [.long (fL a0), .int (fI a2), .int (fI a3), .long (fL a4), .int (fI a6), .int (fI a7)]) M (dn_X6_alike a0 a2 a3 a4 a6 a7 M) :=
  fMt.of (by decide +kernel) (fun _ => Nat.le_of_ble_eq_true rfl) (fun p e s m args below meth c D aC ad hC hr hk => wk_X6_alike hC hr hk a0 a2 a3 a4 a6 a7 M)
def dn_X6_put_J19  (a1 : Int) (M : fMem) : fOp :=
  fGt M 115 20 (fun x2 => fPt M 115 20 (x2 + 1) (fun M3 => some (0, M3)))
set_option maxRecDepth 100000 in
set_option maxHeartbeats 4000000 in
theorem wk_X6_put_J19 {l : Launch} {p : Program} {e : Env} {s : State} {m : MethodId} {args : Array Value} {below : List Frame} {meth : Method} {c : Code} {D : va_G} {aC : Nat → ClassId} {ad : Nat → Nat} (hC : fCx p s m args c vwCl D aC TB ad (fFr ad TB) goodTs cX6_put RX6 2) (hr : meth.sig.returnType = none) (hk : meth.locks = false) (a1 : Int)  (M : fMem) : GM l p e s m args below meth c D aC ad 2 0 0 2 19 [(0, .ref (ad 115)), (1, .int (fI a1))] [] M (dn_X6_put_J19 a1 M) := by
  unfold dn_X6_put_J19
  refine g_aload_n hC 0 20 rfl dX6_put_19 rfl rfl ?_
  refine g_dup hC 21 dX6_put_20 rfl rfl ?_
  refine g_getI hC 24 inX6 rfl 20 (by decide) gw_547 rfl tb_MD rfl dX6_put_21 rfl (fun x2 => ?_)
  refine g_iconst hC 25 dX6_put_24 rfl ?_
  refine g_iadd hC 26 dX6_put_25 rfl ?_
  refine g_putI hC 29 tyX6 tyX6_ok nmX6 inX6 rfl 20 (by decide) gw_547 rfl rfl (by decide +kernel) tb_MD rfl dX6_put_26 rfl (fun M3 => ?_)
  exact g_return hC hr hk dX6_put_29
def dn_X6_put (a1 : Int) (M : fMem) : fOp :=
  fGt M 115 20 (fun x1 => fLe 64 x1 (dn_X6_put_J19 a1 M) (fGt M 115 20 (fun x4 => fWr M 135 64 x4 a1 (fun M5 => dn_X6_put_J19 a1 M5))))
set_option maxRecDepth 100000 in
set_option maxHeartbeats 4000000 in
theorem wk_X6_put {l : Launch} {p : Program} {e : Env} {s : State} {m : MethodId} {args : Array Value} {below : List Frame} {meth : Method} {c : Code} {D : va_G} {aC : Nat → ClassId} {ad : Nat → Nat} (hC : fCx p s m args c vwCl D aC TB ad (fFr ad TB) goodTs cX6_put RX6 2) (hr : meth.sig.returnType = none) (hk : meth.locks = false) (a1 : Int) (M : fMem) : GM l p e s m args below meth c D aC ad 2 0 0 2 0 [(0, .ref (ad 115)), (1, .int (fI a1))] [] M (dn_X6_put a1 M) := by
  unfold dn_X6_put
  refine g_aload_n hC 0 1 rfl dX6_put_0 rfl rfl ?_
  refine g_getI hC 4 inX6 rfl 20 (by decide) gw_547 rfl tb_MD rfl dX6_put_1 rfl (fun x1 => ?_)
  refine g_bipush hC 6 dX6_put_4 rfl (by decide +kernel) ?_
  refine g_icmp_ge hC 19 9 dX6_put_6 rfl rfl ?_ ?_
  · exact wk_X6_put_J19 hC hr hk _ _
  · refine g_aload_n hC 0 10 rfl dX6_put_9 rfl rfl ?_
    refine g_getA hC 13 inX6 rfl 19 (by decide) gw_546 rfl tb_MD rfl dX6_put_10 rfl ?_
    refine g_aload_n hC 0 14 rfl dX6_put_13 rfl rfl ?_
    refine g_getI hC 17 inX6 rfl 20 (by decide) gw_547 rfl tb_MD rfl dX6_put_14 rfl (fun x4 => ?_)
    refine g_iload_n hC 1 18 rfl dX6_put_17 rfl rfl ?_
    refine g_iast hC 19 tb_MD_20 (by decide) dX6_put_18 rfl (fun M5 => ?_)
    exact wk_X6_put_J19 hC hr hk _ _
theorem cn_X6_put (l : Launch) (a1 : Int) (M : fMem) : fMt l vwCl TB yX6_put cX6_put 2 (none) 0 0 2 (fun ad => [.ref (ad 115), .int (fI a1)]) M (dn_X6_put a1 M) :=
  fMt.of (by decide +kernel) (fun _ => Nat.le_of_ble_eq_true rfl) (fun p e s m args below meth c D aC ad hC hr hk => wk_X6_put hC hr hk a1 M)
def dn_X6_putAll_L3B  (a1 a3 a4 : Int) (r : Int → fMem → fOp) (a5 : Int) (M : fMem) : fOp :=
  fLe a4 a5 (some (0, M)) (fCl (dn_X6_lineOf a1 a5 M) (fun v1 M2 => fCl (dn_X6_put v1 M2) (fun _ M4 => r (a5 + 1) M4)))
def dn_X6_putAll_L3  (a1 a3 a4 : Int) : Nat → Int → fMem → fOp
  | 0, _, _ => none
  | n + 1, a5, M => dn_X6_putAll_L3B a1 a3 a4 (fun a5 M => dn_X6_putAll_L3 a1 a3 a4 n a5 M) a5 M
set_option maxRecDepth 100000 in
set_option maxHeartbeats 4000000 in
theorem wk_X6_putAll_L3B {l : Launch} {p : Program} {e : Env} {s : State} {m : MethodId} {args : Array Value} {below : List Frame} {meth : Method} {c : Code} {D : va_G} {aC : Nat → ClassId} {ad : Nat → Nat} (hC : fCx p s m args c vwCl D aC TB ad (fFr ad TB) goodTs cX6_putAll RX6 6) (hr : meth.sig.returnType = none) (hk : meth.locks = false) (a1 a3 a4 : Int) (r : Int → fMem → fOp) (hrc : ∀ (a5 : Int) (M : fMem), GM l p e s m args below meth c D aC ad 6 2 46 2 3 [(0, .ref (ad 115)), (1, .long (fL a1)), (3, .int (fI a3)), (4, .int (fI a4)), (5, .int (fI a5))] [] M (r a5 M)) (a5 : Int) (M : fMem) : GM l p e s m args below meth c D aC ad 6 2 46 2 3 [(0, .ref (ad 115)), (1, .long (fL a1)), (3, .int (fI a3)), (4, .int (fI a4)), (5, .int (fI a5))] [] M (dn_X6_putAll_L3B a1 a3 a4 r a5 M) := by
  unfold dn_X6_putAll_L3B
  refine g_iload hC 4 5 rfl dX6_putAll_3 rfl ?_
  refine g_iload hC 3 7 rfl dX6_putAll_5 rfl ?_
  refine g_icmp_ge hC 26 10 dX6_putAll_7 rfl rfl ?_ ?_
  · exact g_return hC hr hk dX6_putAll_26
  · refine g_aload_n hC 0 11 rfl dX6_putAll_10 rfl rfl ?_
    refine g_lload_n hC 1 12 rfl dX6_putAll_11 rfl rfl ?_
    refine g_iload hC 4 14 rfl dX6_putAll_12 rfl ?_
    refine g_cS hC 17 2 [.long (fL a1), .int (fI a5)] [.ref (ad 115)] (cn_X6_lineOf l a1 a5 _) rfl rfl gw_611 gw_613 gw_65 gw_612 (by decide +kernel) rfl ⟨Nat.le_of_ble_eq_true rfl, Nat.le_of_ble_eq_true rfl⟩ (Nat.le_of_ble_eq_true rfl) ⟨Nat.zero_le _, Nat.zero_le _⟩ dX6_putAll_14 rfl (fun v1 => .int (fI v1) :: [.ref (ad 115)]) (fun _ => rfl) (fun v1 M2 => ?_)
    refine g_cV hC 20 1 [.int (fI v1)] [] (cn_X6_put l v1 _) rfl rfl tb_MD rfl gw_697 gw_700 gw_65 gw_699 gw_51 (by decide +kernel) rfl ⟨Nat.le_of_ble_eq_true rfl, Nat.le_of_ble_eq_true rfl⟩ (Nat.le_of_ble_eq_true rfl) ⟨Nat.zero_le _, Nat.zero_le _⟩ dX6_putAll_17 rfl (fun _ => []) (fun _ => rfl) (fun _ M4 => ?_)
    refine g_iinc hC 4 23 [(5, .int (fI (a5 + 1))), (0, .ref (ad 115)), (1, .long (fL a1)), (3, .int (fI a3)), (4, .int (fI a4))] rfl dX6_putAll_20 (by decide) rfl rfl ?_
    refine g_goto hC 3 dX6_putAll_23 rfl ?_
    refine g_lv [1, 2, 3, 4, 0] rfl ?_
    exact hrc _ _
set_option maxRecDepth 100000 in
set_option maxHeartbeats 4000000 in
theorem wk_X6_putAll_L3 {l : Launch} {p : Program} {e : Env} {s : State} {m : MethodId} {args : Array Value} {below : List Frame} {meth : Method} {c : Code} {D : va_G} {aC : Nat → ClassId} {ad : Nat → Nat} (hC : fCx p s m args c vwCl D aC TB ad (fFr ad TB) goodTs cX6_putAll RX6 6) (hr : meth.sig.returnType = none) (hk : meth.locks = false) (a1 a3 a4 : Int) (n : Nat) : ∀ (a5 : Int) (M : fMem), GM l p e s m args below meth c D aC ad 6 2 46 2 3 [(0, .ref (ad 115)), (1, .long (fL a1)), (3, .int (fI a3)), (4, .int (fI a4)), (5, .int (fI a5))] [] M (dn_X6_putAll_L3 a1 a3 a4 n a5 M) := by
  induction n with
  | zero => intro a5 M; exact g_none
  | succ n ih => intro a5 M; exact wk_X6_putAll_L3B hC hr hk a1 a3 a4 (fun a5 M => dn_X6_putAll_L3 a1 a3 a4 n a5 M) ih a5 M
def dn_X6_putAll (a1 : Int) (a3 : Int) (a4 : Int) (M : fMem) : fOp :=
  dn_X6_putAll_L3 a1 a3 a4 600 a3 M
set_option maxRecDepth 100000 in
set_option maxHeartbeats 4000000 in
theorem wk_X6_putAll {l : Launch} {p : Program} {e : Env} {s : State} {m : MethodId} {args : Array Value} {below : List Frame} {meth : Method} {c : Code} {D : va_G} {aC : Nat → ClassId} {ad : Nat → Nat} (hC : fCx p s m args c vwCl D aC TB ad (fFr ad TB) goodTs cX6_putAll RX6 6) (hr : meth.sig.returnType = none) (hk : meth.locks = false) (a1 : Int) (a3 : Int) (a4 : Int) (M : fMem) : GM l p e s m args below meth c D aC ad 6 2 46 2 0 [(0, .ref (ad 115)), (1, .long (fL a1)), (3, .int (fI a3)), (4, .int (fI a4))] [] M (dn_X6_putAll a1 a3 a4 M) := by
  unfold dn_X6_putAll
  refine g_iload_n hC 2 1 rfl dX6_putAll_0 rfl rfl ?_
  refine g_istore hC 3 [(5, .int (fI a3)), (0, .ref (ad 115)), (1, .long (fL a1)), (3, .int (fI a3)), (4, .int (fI a4))] dX6_putAll_1 (by decide) rfl rfl ?_
  refine g_lv [1, 2, 3, 4, 0] rfl ?_
  refine wk_X6_putAll_L3 hC hr hk _ _ _ 600 _ _
theorem cn_X6_putAll (l : Launch) (a1 : Int) (a3 : Int) (a4 : Int) (M : fMem) : fMt l vwCl TB yX6_putAll cX6_putAll 6 (none) 2 46 2 (fun ad => [.ref (ad 115), .long (fL a1), .int (fI a3), .int (fI a4)]) M (dn_X6_putAll a1 a3 a4 M) :=
  fMt.of (by decide +kernel) (fun _ => Nat.le_of_ble_eq_true rfl) (fun p e s m args below meth c D aC ad hC hr hk => wk_X6_putAll hC hr hk a1 a3 a4 M)
def dn_X6_merge_J289  (r : Int → Int → Int → Int → fMem → fOp) (a1 a3 a5 a7 a8 a9 a10 a11 : Int) (M : fMem) : fOp :=
  r a7 a8 a9 (a10 + 1) M
set_option maxRecDepth 100000 in
set_option maxHeartbeats 4000000 in
theorem wk_X6_merge_J289 {l : Launch} {p : Program} {e : Env} {s : State} {m : MethodId} {args : Array Value} {below : List Frame} {meth : Method} {c : Code} {D : va_G} {aC : Nat → ClassId} {ad : Nat → Nat} (hC : fCx p s m args c vwCl D aC TB ad (fFr ad TB) goodTs cX6_merge RX6 14) (hr : meth.sig.returnType = none) (hk : meth.locks = false) (a1 a3 a5 a7 a8 a9 a10 a11 : Int)  (r : Int → Int → Int → Int → fMem → fOp) (hrc : ∀ (z7 z8 z9 z10 : Int) (M : fMem), GM l p e s m args below meth c D aC ad 14 4 102 2 37 [(0, .ref (ad 115)), (1, .long (fL a1)), (3, .long (fL a3)), (5, .long (fL a5)), (7, .int (fI z7)), (8, .int (fI z8)), (9, .int (fI z9)), (10, .int (fI z10))] [] M (r z7 z8 z9 z10 M)) (M : fMem) : GM l p e s m args below meth c D aC ad 14 4 102 2 289 [(0, .ref (ad 115)), (1, .long (fL a1)), (3, .long (fL a3)), (5, .long (fL a5)), (7, .int (fI a7)), (8, .int (fI a8)), (9, .int (fI a9)), (10, .int (fI a10)), (11, .int (fI a11))] [] M (dn_X6_merge_J289 r a1 a3 a5 a7 a8 a9 a10 a11 M) := by
  unfold dn_X6_merge_J289
  refine g_iinc hC 7 292 [(10, .int (fI (a10 + 1))), (0, .ref (ad 115)), (1, .long (fL a1)), (3, .long (fL a3)), (5, .long (fL a5)), (7, .int (fI a7)), (8, .int (fI a8)), (9, .int (fI a9)), (11, .int (fI a11))] rfl dX6_merge_289 (by decide) rfl rfl ?_
  refine g_goto hC 37 dX6_merge_292 rfl ?_
  refine g_lv [1, 2, 3, 4, 5, 6, 7, 0] rfl ?_
  exact hrc _ _ _ _ _
def dn_X6_merge_J271  (r : Int → Int → Int → Int → fMem → fOp) (a1 a3 a5 a7 a8 a9 a10 a11 a12 a13 : Int) (M : fMem) : fOp :=
  dn_X6_merge_J289 r a1 a3 a5 (a10 + 1) (a12 + 1) (a13 + 1) a10 a11 M
set_option maxRecDepth 100000 in
set_option maxHeartbeats 4000000 in
theorem wk_X6_merge_J271 {l : Launch} {p : Program} {e : Env} {s : State} {m : MethodId} {args : Array Value} {below : List Frame} {meth : Method} {c : Code} {D : va_G} {aC : Nat → ClassId} {ad : Nat → Nat} (hC : fCx p s m args c vwCl D aC TB ad (fFr ad TB) goodTs cX6_merge RX6 14) (hr : meth.sig.returnType = none) (hk : meth.locks = false) (a1 a3 a5 a7 a8 a9 a10 a11 a12 a13 : Int)  (r : Int → Int → Int → Int → fMem → fOp) (hrc : ∀ (z7 z8 z9 z10 : Int) (M : fMem), GM l p e s m args below meth c D aC ad 14 4 102 2 37 [(0, .ref (ad 115)), (1, .long (fL a1)), (3, .long (fL a3)), (5, .long (fL a5)), (7, .int (fI z7)), (8, .int (fI z8)), (9, .int (fI z9)), (10, .int (fI z10))] [] M (r z7 z8 z9 z10 M)) (M : fMem) : GM l p e s m args below meth c D aC ad 14 4 102 2 271 [(0, .ref (ad 115)), (1, .long (fL a1)), (3, .long (fL a3)), (5, .long (fL a5)), (7, .int (fI a7)), (8, .int (fI a8)), (9, .int (fI a9)), (10, .int (fI a10)), (11, .int (fI a11)), (12, .int (fI a12)), (13, .int (fI a13))] [] M (dn_X6_merge_J271 r a1 a3 a5 a7 a8 a9 a10 a11 a12 a13 M) := by
  unfold dn_X6_merge_J271
  refine g_iload hC 7 273 rfl dX6_merge_271 rfl ?_
  refine g_iconst hC 274 dX6_merge_273 rfl ?_
  refine g_iadd hC 275 dX6_merge_274 rfl ?_
  refine g_istore hC 277 [(7, .int (fI (a10 + 1))), (0, .ref (ad 115)), (1, .long (fL a1)), (3, .long (fL a3)), (5, .long (fL a5)), (8, .int (fI a8)), (9, .int (fI a9)), (10, .int (fI a10)), (11, .int (fI a11)), (12, .int (fI a12)), (13, .int (fI a13))] dX6_merge_275 (by decide) rfl rfl ?_
  refine g_iload hC 9 279 rfl dX6_merge_277 rfl ?_
  refine g_iconst hC 280 dX6_merge_279 rfl ?_
  refine g_iadd hC 281 dX6_merge_280 rfl ?_
  refine g_istore hC 283 [(8, .int (fI (a12 + 1))), (7, .int (fI (a10 + 1))), (0, .ref (ad 115)), (1, .long (fL a1)), (3, .long (fL a3)), (5, .long (fL a5)), (9, .int (fI a9)), (10, .int (fI a10)), (11, .int (fI a11)), (12, .int (fI a12)), (13, .int (fI a13))] dX6_merge_281 (by decide) rfl rfl ?_
  refine g_iload hC 10 285 rfl dX6_merge_283 rfl ?_
  refine g_iconst hC 286 dX6_merge_285 rfl ?_
  refine g_iadd hC 287 dX6_merge_286 rfl ?_
  refine g_istore hC 289 [(9, .int (fI (a13 + 1))), (8, .int (fI (a12 + 1))), (7, .int (fI (a10 + 1))), (0, .ref (ad 115)), (1, .long (fL a1)), (3, .long (fL a3)), (5, .long (fL a5)), (10, .int (fI a10)), (11, .int (fI a11)), (12, .int (fI a12)), (13, .int (fI a13))] dX6_merge_287 (by decide) rfl rfl ?_
  refine g_lv [3, 4, 5, 6, 2, 1, 0, 7, 8] rfl ?_
  exact wk_X6_merge_J289 hC hr hk _ _ _ _ _ _ _ _ _ hrc _
def dn_X6_merge_J256  (r : Int → Int → Int → Int → fMem → fOp) (a1 a3 a5 a7 a8 a9 a10 a11 a12 a13 : Int) (M : fMem) : fOp :=
  fEq a11 0 (dn_X6_merge_J271 r a1 a3 a5 a7 a8 a9 a10 a11 a12 a13 M) (fCl (dn_X6_lineOf a1 a10 M) (fun v21 M22 => fCl (dn_X6_put v21 M22) (fun _ M24 => dn_X6_merge_J271 r a1 a3 a5 a7 a8 a9 a10 a11 a12 a13 M24)))
set_option maxRecDepth 100000 in
set_option maxHeartbeats 4000000 in
theorem wk_X6_merge_J256 {l : Launch} {p : Program} {e : Env} {s : State} {m : MethodId} {args : Array Value} {below : List Frame} {meth : Method} {c : Code} {D : va_G} {aC : Nat → ClassId} {ad : Nat → Nat} (hC : fCx p s m args c vwCl D aC TB ad (fFr ad TB) goodTs cX6_merge RX6 14) (hr : meth.sig.returnType = none) (hk : meth.locks = false) (a1 a3 a5 a7 a8 a9 a10 a11 a12 a13 : Int)  (r : Int → Int → Int → Int → fMem → fOp) (hrc : ∀ (z7 z8 z9 z10 : Int) (M : fMem), GM l p e s m args below meth c D aC ad 14 4 102 2 37 [(0, .ref (ad 115)), (1, .long (fL a1)), (3, .long (fL a3)), (5, .long (fL a5)), (7, .int (fI z7)), (8, .int (fI z8)), (9, .int (fI z9)), (10, .int (fI z10))] [] M (r z7 z8 z9 z10 M)) (M : fMem) : GM l p e s m args below meth c D aC ad 14 4 102 2 256 [(0, .ref (ad 115)), (1, .long (fL a1)), (3, .long (fL a3)), (5, .long (fL a5)), (7, .int (fI a7)), (8, .int (fI a8)), (9, .int (fI a9)), (10, .int (fI a10)), (11, .int (fI a11)), (12, .int (fI a12)), (13, .int (fI a13))] [] M (dn_X6_merge_J256 r a1 a3 a5 a7 a8 a9 a10 a11 a12 a13 M) := by
  unfold dn_X6_merge_J256
  refine g_iload hC 8 258 rfl dX6_merge_256 rfl ?_
  refine g_if_eq hC 271 261 dX6_merge_258 rfl rfl ?_ ?_
  · exact wk_X6_merge_J271 hC hr hk _ _ _ _ _ _ _ _ _ _ _ hrc _
  · refine g_aload_n hC 0 262 rfl dX6_merge_261 rfl rfl ?_
    refine g_lload_n hC 1 263 rfl dX6_merge_262 rfl rfl ?_
    refine g_iload hC 7 265 rfl dX6_merge_263 rfl ?_
    refine g_cS hC 268 2 [.long (fL a1), .int (fI a10)] [.ref (ad 115)] (cn_X6_lineOf l a1 a10 _) rfl rfl gw_611 gw_613 gw_65 gw_612 (by decide +kernel) rfl ⟨Nat.le_of_ble_eq_true rfl, Nat.le_of_ble_eq_true rfl⟩ (Nat.le_of_ble_eq_true rfl) ⟨Nat.zero_le _, Nat.zero_le _⟩ dX6_merge_265 rfl (fun v21 => .int (fI v21) :: [.ref (ad 115)]) (fun _ => rfl) (fun v21 M22 => ?_)
    refine g_cV hC 271 1 [.int (fI v21)] [] (cn_X6_put l v21 _) rfl rfl tb_MD rfl gw_697 gw_700 gw_65 gw_699 gw_51 (by decide +kernel) rfl ⟨Nat.le_of_ble_eq_true rfl, Nat.le_of_ble_eq_true rfl⟩ (Nat.le_of_ble_eq_true rfl) ⟨Nat.zero_le _, Nat.zero_le _⟩ dX6_merge_268 rfl (fun _ => []) (fun _ => rfl) (fun _ M24 => ?_)
    exact wk_X6_merge_J271 hC hr hk _ _ _ _ _ _ _ _ _ _ _ hrc _
def dn_X6_merge_J202  (r : Int → Int → Int → Int → fMem → fOp) (a1 a3 a5 a7 a8 a9 a10 a11 a12 a13 : Int) (M : fMem) : fOp :=
  fCl (dn_X6_putAll a3 a8 a12 M) (fun _ M20 => dn_X6_merge_J256 r a1 a3 a5 a7 a8 a9 a10 a11 a12 a13 M20)
set_option maxRecDepth 100000 in
set_option maxHeartbeats 4000000 in
theorem wk_X6_merge_J202 {l : Launch} {p : Program} {e : Env} {s : State} {m : MethodId} {args : Array Value} {below : List Frame} {meth : Method} {c : Code} {D : va_G} {aC : Nat → ClassId} {ad : Nat → Nat} (hC : fCx p s m args c vwCl D aC TB ad (fFr ad TB) goodTs cX6_merge RX6 14) (hr : meth.sig.returnType = none) (hk : meth.locks = false) (a1 a3 a5 a7 a8 a9 a10 a11 a12 a13 : Int)  (r : Int → Int → Int → Int → fMem → fOp) (hrc : ∀ (z7 z8 z9 z10 : Int) (M : fMem), GM l p e s m args below meth c D aC ad 14 4 102 2 37 [(0, .ref (ad 115)), (1, .long (fL a1)), (3, .long (fL a3)), (5, .long (fL a5)), (7, .int (fI z7)), (8, .int (fI z8)), (9, .int (fI z9)), (10, .int (fI z10))] [] M (r z7 z8 z9 z10 M)) (M : fMem) : GM l p e s m args below meth c D aC ad 14 4 102 2 202 [(0, .ref (ad 115)), (1, .long (fL a1)), (3, .long (fL a3)), (5, .long (fL a5)), (7, .int (fI a7)), (8, .int (fI a8)), (9, .int (fI a9)), (10, .int (fI a10)), (11, .int (fI a11)), (12, .int (fI a12)), (13, .int (fI a13))] [] M (dn_X6_merge_J202 r a1 a3 a5 a7 a8 a9 a10 a11 a12 a13 M) := by
  unfold dn_X6_merge_J202
  refine g_aload_n hC 0 203 rfl dX6_merge_202 rfl rfl ?_
  refine g_lload_n hC 2 204 rfl dX6_merge_203 rfl rfl ?_
  refine g_iload hC 5 206 rfl dX6_merge_204 rfl ?_
  refine g_iload hC 9 208 rfl dX6_merge_206 rfl ?_
  refine g_cV hC 211 3 [.long (fL a3), .int (fI a8), .int (fI a12)] [] (cn_X6_putAll l a3 a8 a12 _) rfl rfl tb_MD rfl gw_693 gw_696 gw_65 gw_695 gw_50 (by decide +kernel) rfl ⟨Nat.le_of_ble_eq_true rfl, Nat.le_of_ble_eq_true rfl⟩ (Nat.le_of_ble_eq_true rfl) ⟨Nat.zero_le _, Nat.zero_le _⟩ dX6_merge_208 rfl (fun _ => []) (fun _ => rfl) (fun _ M20 => ?_)
  refine g_goto hC 256 dX6_merge_211 rfl ?_
  exact wk_X6_merge_J256 hC hr hk _ _ _ _ _ _ _ _ _ _ _ hrc _
def dn_X6_merge_J137  (r : Int → Int → Int → Int → fMem → fOp) (a1 a3 a5 a7 a8 a9 a10 a11 a12 as0 : Int) (M : fMem) : fOp :=
  fCl (dn_X6_alike a3 a8 a12 a1 a7 a10 M) (fun v15 M16 => fEq v15 0 (fCl (dn_X6_alike a5 a9 as0 a1 a7 a10 M16) (fun v17 M18 => fEq v17 0 (fCl (dn_X6_alike a5 a9 as0 a3 a8 a12 M18) (fun v25 M26 => fEq v25 0 (fPz M26 115 21 1 (fun M27 => fCl (dn_X6_put 17 M27) (fun _ M29 => fCl (dn_X6_putAll a3 a8 a12 M29) (fun _ M31 => fCl (dn_X6_put 18 M31) (fun _ M33 => fCl (dn_X6_putAll a5 a9 as0 M33) (fun _ M35 => fCl (dn_X6_put 19 M35) (fun _ M37 => dn_X6_merge_J256 r a1 a3 a5 a7 a8 a9 a10 a11 a12 as0 M37))))))) (dn_X6_merge_J202 r a1 a3 a5 a7 a8 a9 a10 a11 a12 as0 M26))) (dn_X6_merge_J202 r a1 a3 a5 a7 a8 a9 a10 a11 a12 as0 M18))) (fCl (dn_X6_putAll a5 a9 as0 M16) (fun _ M39 => dn_X6_merge_J256 r a1 a3 a5 a7 a8 a9 a10 a11 a12 as0 M39)))
set_option maxRecDepth 100000 in
set_option maxHeartbeats 4000000 in
theorem wk_X6_merge_J137 {l : Launch} {p : Program} {e : Env} {s : State} {m : MethodId} {args : Array Value} {below : List Frame} {meth : Method} {c : Code} {D : va_G} {aC : Nat → ClassId} {ad : Nat → Nat} (hC : fCx p s m args c vwCl D aC TB ad (fFr ad TB) goodTs cX6_merge RX6 14) (hr : meth.sig.returnType = none) (hk : meth.locks = false) (a1 a3 a5 a7 a8 a9 a10 a11 a12 as0 : Int)  (r : Int → Int → Int → Int → fMem → fOp) (hrc : ∀ (z7 z8 z9 z10 : Int) (M : fMem), GM l p e s m args below meth c D aC ad 14 4 102 2 37 [(0, .ref (ad 115)), (1, .long (fL a1)), (3, .long (fL a3)), (5, .long (fL a5)), (7, .int (fI z7)), (8, .int (fI z8)), (9, .int (fI z9)), (10, .int (fI z10))] [] M (r z7 z8 z9 z10 M)) (M : fMem) : GM l p e s m args below meth c D aC ad 14 4 102 2 137 [(0, .ref (ad 115)), (1, .long (fL a1)), (3, .long (fL a3)), (5, .long (fL a5)), (7, .int (fI a7)), (8, .int (fI a8)), (9, .int (fI a9)), (10, .int (fI a10)), (11, .int (fI a11)), (12, .int (fI a12))] [.int (fI as0)] M (dn_X6_merge_J137 r a1 a3 a5 a7 a8 a9 a10 a11 a12 as0 M) := by
  unfold dn_X6_merge_J137
  refine g_istore hC 139 [(13, .int (fI as0)), (0, .ref (ad 115)), (1, .long (fL a1)), (3, .long (fL a3)), (5, .long (fL a5)), (7, .int (fI a7)), (8, .int (fI a8)), (9, .int (fI a9)), (10, .int (fI a10)), (11, .int (fI a11)), (12, .int (fI a12))] dX6_merge_137 (by decide) rfl rfl ?_
  refine g_lload_n hC 3 140 rfl dX6_merge_139 rfl rfl ?_
  refine g_iload hC 6 142 rfl dX6_merge_140 rfl ?_
  refine g_iload hC 10 144 rfl dX6_merge_142 rfl ?_
  refine g_lload_n hC 2 145 rfl dX6_merge_144 rfl rfl ?_
  refine g_iload hC 5 147 rfl dX6_merge_145 rfl ?_
  refine g_iload hC 8 149 rfl dX6_merge_147 rfl ?_
  refine g_cS hC 152 6 [.long (fL a3), .int (fI a8), .int (fI a12), .long (fL a1), .int (fI a7), .int (fI a10)] [] (cn_X6_alike l a3 a8 a12 a1 a7 a10 _) rfl rfl gw_690 gw_692 gw_65 gw_691 (by decide +kernel) rfl ⟨Nat.le_of_ble_eq_true rfl, Nat.le_of_ble_eq_true rfl⟩ (Nat.le_of_ble_eq_true rfl) ⟨Nat.zero_le _, Nat.zero_le _⟩ dX6_merge_149 rfl (fun v15 => .int (fI v15) :: []) (fun _ => rfl) (fun v15 M16 => ?_)
  refine g_if_eq hC 168 155 dX6_merge_152 rfl rfl ?_ ?_
  · refine g_lload hC 4 170 rfl dX6_merge_168 rfl ?_
    refine g_iload hC 7 172 rfl dX6_merge_170 rfl ?_
    refine g_iload hC 0 174 rfl dX6_merge_172 rfl ?_
    refine g_lload_n hC 2 175 rfl dX6_merge_174 rfl rfl ?_
    refine g_iload hC 5 177 rfl dX6_merge_175 rfl ?_
    refine g_iload hC 8 179 rfl dX6_merge_177 rfl ?_
    refine g_cS hC 182 6 [.long (fL a5), .int (fI a9), .int (fI as0), .long (fL a1), .int (fI a7), .int (fI a10)] [] (cn_X6_alike l a5 a9 as0 a1 a7 a10 _) rfl rfl gw_690 gw_692 gw_65 gw_691 (by decide +kernel) rfl ⟨Nat.le_of_ble_eq_true rfl, Nat.le_of_ble_eq_true rfl⟩ (Nat.le_of_ble_eq_true rfl) ⟨Nat.zero_le _, Nat.zero_le _⟩ dX6_merge_179 rfl (fun v17 => .int (fI v17) :: []) (fun _ => rfl) (fun v17 M18 => ?_)
    refine g_if_ne hC 202 185 dX6_merge_182 rfl rfl ?_ ?_
    · refine g_lv [1, 2, 3, 4, 5, 6, 7, 8, 9, 10, 0] rfl ?_
      exact wk_X6_merge_J202 hC hr hk _ _ _ _ _ _ _ _ _ _ _ hrc _
    · refine g_lload hC 4 187 rfl dX6_merge_185 rfl ?_
      refine g_iload hC 7 189 rfl dX6_merge_187 rfl ?_
      refine g_iload hC 0 191 rfl dX6_merge_189 rfl ?_
      refine g_lload_n hC 3 192 rfl dX6_merge_191 rfl rfl ?_
      refine g_iload hC 6 194 rfl dX6_merge_192 rfl ?_
      refine g_iload hC 10 196 rfl dX6_merge_194 rfl ?_
      refine g_cS hC 199 6 [.long (fL a5), .int (fI a9), .int (fI as0), .long (fL a3), .int (fI a8), .int (fI a12)] [] (cn_X6_alike l a5 a9 as0 a3 a8 a12 _) rfl rfl gw_690 gw_692 gw_65 gw_691 (by decide +kernel) rfl ⟨Nat.le_of_ble_eq_true rfl, Nat.le_of_ble_eq_true rfl⟩ (Nat.le_of_ble_eq_true rfl) ⟨Nat.zero_le _, Nat.zero_le _⟩ dX6_merge_196 rfl (fun v25 => .int (fI v25) :: []) (fun _ => rfl) (fun v25 M26 => ?_)
      refine g_if_eq hC 214 202 dX6_merge_199 rfl rfl ?_ ?_
      · refine g_aload_n hC 1 215 rfl dX6_merge_214 rfl rfl ?_
        refine g_iconst hC 216 dX6_merge_215 rfl ?_
        refine g_putZ hC 219 tyX6 tyX6_ok nmX6 inX6 rfl 21 (by decide) gw_548 rfl rfl (by decide +kernel) tb_MD rfl dX6_merge_216 rfl (fun M27 => ?_)
        refine g_aload_n hC 1 220 rfl dX6_merge_219 rfl rfl ?_
        refine g_bipush hC 222 dX6_merge_220 rfl (by decide +kernel) ?_
        refine g_cV hC 225 1 [.int (fI 17)] [] (cn_X6_put l 17 _) rfl rfl tb_MD rfl gw_697 gw_700 gw_65 gw_699 gw_51 (by decide +kernel) rfl ⟨Nat.le_of_ble_eq_true rfl, Nat.le_of_ble_eq_true rfl⟩ (Nat.le_of_ble_eq_true rfl) ⟨Nat.zero_le _, Nat.zero_le _⟩ dX6_merge_222 rfl (fun _ => []) (fun _ => rfl) (fun _ M29 => ?_)
        refine g_aload_n hC 1 226 rfl dX6_merge_225 rfl rfl ?_
        refine g_lload_n hC 3 227 rfl dX6_merge_226 rfl rfl ?_
        refine g_iload hC 6 229 rfl dX6_merge_227 rfl ?_
        refine g_iload hC 10 231 rfl dX6_merge_229 rfl ?_
        refine g_cV hC 234 3 [.long (fL a3), .int (fI a8), .int (fI a12)] [] (cn_X6_putAll l a3 a8 a12 _) rfl rfl tb_MD rfl gw_693 gw_696 gw_65 gw_695 gw_50 (by decide +kernel) rfl ⟨Nat.le_of_ble_eq_true rfl, Nat.le_of_ble_eq_true rfl⟩ (Nat.le_of_ble_eq_true rfl) ⟨Nat.zero_le _, Nat.zero_le _⟩ dX6_merge_231 rfl (fun _ => []) (fun _ => rfl) (fun _ M31 => ?_)
        refine g_aload_n hC 1 235 rfl dX6_merge_234 rfl rfl ?_
        refine g_bipush hC 237 dX6_merge_235 rfl (by decide +kernel) ?_
        refine g_cV hC 240 1 [.int (fI 18)] [] (cn_X6_put l 18 _) rfl rfl tb_MD rfl gw_697 gw_700 gw_65 gw_699 gw_51 (by decide +kernel) rfl ⟨Nat.le_of_ble_eq_true rfl, Nat.le_of_ble_eq_true rfl⟩ (Nat.le_of_ble_eq_true rfl) ⟨Nat.zero_le _, Nat.zero_le _⟩ dX6_merge_237 rfl (fun _ => []) (fun _ => rfl) (fun _ M33 => ?_)
        refine g_aload_n hC 1 241 rfl dX6_merge_240 rfl rfl ?_
        refine g_lload hC 4 243 rfl dX6_merge_241 rfl ?_
        refine g_iload hC 7 245 rfl dX6_merge_243 rfl ?_
        refine g_iload hC 0 247 rfl dX6_merge_245 rfl ?_
        refine g_cV hC 250 3 [.long (fL a5), .int (fI a9), .int (fI as0)] [] (cn_X6_putAll l a5 a9 as0 _) rfl rfl tb_MD rfl gw_693 gw_696 gw_65 gw_695 gw_50 (by decide +kernel) rfl ⟨Nat.le_of_ble_eq_true rfl, Nat.le_of_ble_eq_true rfl⟩ (Nat.le_of_ble_eq_true rfl) ⟨Nat.zero_le _, Nat.zero_le _⟩ dX6_merge_247 rfl (fun _ => []) (fun _ => rfl) (fun _ M35 => ?_)
        refine g_aload_n hC 1 251 rfl dX6_merge_250 rfl rfl ?_
        refine g_bipush hC 253 dX6_merge_251 rfl (by decide +kernel) ?_
        refine g_cV hC 256 1 [.int (fI 19)] [] (cn_X6_put l 19 _) rfl rfl tb_MD rfl gw_697 gw_700 gw_65 gw_699 gw_51 (by decide +kernel) rfl ⟨Nat.le_of_ble_eq_true rfl, Nat.le_of_ble_eq_true rfl⟩ (Nat.le_of_ble_eq_true rfl) ⟨Nat.zero_le _, Nat.zero_le _⟩ dX6_merge_253 rfl (fun _ => []) (fun _ => rfl) (fun _ M37 => ?_)
        refine g_lv [1, 2, 3, 4, 5, 6, 7, 8, 9, 10, 0] rfl ?_
        exact wk_X6_merge_J256 hC hr hk _ _ _ _ _ _ _ _ _ _ _ hrc _
      · refine g_lv [1, 2, 3, 4, 5, 6, 7, 8, 9, 10, 0] rfl ?_
        exact wk_X6_merge_J202 hC hr hk _ _ _ _ _ _ _ _ _ _ _ hrc _
  · refine g_aload_n hC 1 156 rfl dX6_merge_155 rfl rfl ?_
    refine g_lload hC 4 158 rfl dX6_merge_156 rfl ?_
    refine g_iload hC 7 160 rfl dX6_merge_158 rfl ?_
    refine g_iload hC 0 162 rfl dX6_merge_160 rfl ?_
    refine g_cV hC 165 3 [.long (fL a5), .int (fI a9), .int (fI as0)] [] (cn_X6_putAll l a5 a9 as0 _) rfl rfl tb_MD rfl gw_693 gw_696 gw_65 gw_695 gw_50 (by decide +kernel) rfl ⟨Nat.le_of_ble_eq_true rfl, Nat.le_of_ble_eq_true rfl⟩ (Nat.le_of_ble_eq_true rfl) ⟨Nat.zero_le _, Nat.zero_le _⟩ dX6_merge_162 rfl (fun _ => []) (fun _ => rfl) (fun _ M39 => ?_)
    refine g_goto hC 256 dX6_merge_165 rfl ?_
    refine g_lv [1, 2, 3, 4, 5, 6, 7, 8, 9, 10, 0] rfl ?_
    exact wk_X6_merge_J256 hC hr hk _ _ _ _ _ _ _ _ _ _ _ hrc _
def dn_X6_merge_J115  (r : Int → Int → Int → Int → fMem → fOp) (a1 a3 a5 a7 a8 a9 a10 a11 as0 : Int) (M : fMem) : fOp :=
  fEq a11 0 (fCl (dn_X6_size a5 M) (fun v13 M14 => dn_X6_merge_J137 r a1 a3 a5 a7 a8 a9 a10 a11 as0 v13 M14)) (fRd M 134 13 a10 (fun x40 => dn_X6_merge_J137 r a1 a3 a5 a7 a8 a9 a10 a11 as0 x40 M))
set_option maxRecDepth 100000 in
set_option maxHeartbeats 4000000 in
theorem wk_X6_merge_J115 {l : Launch} {p : Program} {e : Env} {s : State} {m : MethodId} {args : Array Value} {below : List Frame} {meth : Method} {c : Code} {D : va_G} {aC : Nat → ClassId} {ad : Nat → Nat} (hC : fCx p s m args c vwCl D aC TB ad (fFr ad TB) goodTs cX6_merge RX6 14) (hr : meth.sig.returnType = none) (hk : meth.locks = false) (a1 a3 a5 a7 a8 a9 a10 a11 as0 : Int)  (r : Int → Int → Int → Int → fMem → fOp) (hrc : ∀ (z7 z8 z9 z10 : Int) (M : fMem), GM l p e s m args below meth c D aC ad 14 4 102 2 37 [(0, .ref (ad 115)), (1, .long (fL a1)), (3, .long (fL a3)), (5, .long (fL a5)), (7, .int (fI z7)), (8, .int (fI z8)), (9, .int (fI z9)), (10, .int (fI z10))] [] M (r z7 z8 z9 z10 M)) (M : fMem) : GM l p e s m args below meth c D aC ad 14 4 102 2 115 [(0, .ref (ad 115)), (1, .long (fL a1)), (3, .long (fL a3)), (5, .long (fL a5)), (7, .int (fI a7)), (8, .int (fI a8)), (9, .int (fI a9)), (10, .int (fI a10)), (11, .int (fI a11))] [.int (fI as0)] M (dn_X6_merge_J115 r a1 a3 a5 a7 a8 a9 a10 a11 as0 M) := by
  unfold dn_X6_merge_J115
  refine g_istore hC 117 [(12, .int (fI as0)), (0, .ref (ad 115)), (1, .long (fL a1)), (3, .long (fL a3)), (5, .long (fL a5)), (7, .int (fI a7)), (8, .int (fI a8)), (9, .int (fI a9)), (10, .int (fI a10)), (11, .int (fI a11))] dX6_merge_115 (by decide) rfl rfl ?_
  refine g_iload hC 9 119 rfl dX6_merge_117 rfl ?_
  refine g_if_eq hC 132 122 dX6_merge_119 rfl rfl ?_ ?_
  · refine g_lload hC 4 134 rfl dX6_merge_132 rfl ?_
    refine g_cS hC 137 1 [.long (fL a5)] [] (cn_X6_size l a5 _) rfl rfl gw_607 gw_609 gw_65 gw_608 (by decide +kernel) rfl ⟨Nat.le_of_ble_eq_true rfl, Nat.le_of_ble_eq_true rfl⟩ (Nat.le_of_ble_eq_true rfl) ⟨Nat.zero_le _, Nat.zero_le _⟩ dX6_merge_134 rfl (fun v13 => .int (fI v13) :: []) (fun _ => rfl) (fun v13 M14 => ?_)
    refine g_lv [1, 2, 3, 4, 5, 6, 7, 8, 9, 0] rfl ?_
    exact wk_X6_merge_J137 hC hr hk _ _ _ _ _ _ _ _ _ _ _ hrc _
  · refine g_aload_n hC 1 123 rfl dX6_merge_122 rfl rfl ?_
    refine g_getA hC 126 inX6 rfl 18 (by decide) gw_545 rfl tb_MD rfl dX6_merge_123 rfl ?_
    refine g_iload hC 8 128 rfl dX6_merge_126 rfl ?_
    refine g_iald hC 129 tb_MD_19 (by decide) dX6_merge_128 rfl (fun x40 => ?_)
    refine g_goto hC 137 dX6_merge_129 rfl ?_
    refine g_lv [1, 2, 3, 4, 5, 6, 7, 8, 9, 0] rfl ?_
    exact wk_X6_merge_J137 hC hr hk _ _ _ _ _ _ _ _ _ _ _ hrc _
def dn_X6_merge_J96  (r : Int → Int → Int → Int → fMem → fOp) (a1 a3 a5 a7 a8 a9 a10 a11 : Int) (M : fMem) : fOp :=
  fEq a11 0 (fCl (dn_X6_size a3 M) (fun v11 M12 => dn_X6_merge_J115 r a1 a3 a5 a7 a8 a9 a10 a11 v11 M12)) (fRd M 133 13 a10 (fun x41 => dn_X6_merge_J115 r a1 a3 a5 a7 a8 a9 a10 a11 x41 M))
set_option maxRecDepth 100000 in
set_option maxHeartbeats 4000000 in
theorem wk_X6_merge_J96 {l : Launch} {p : Program} {e : Env} {s : State} {m : MethodId} {args : Array Value} {below : List Frame} {meth : Method} {c : Code} {D : va_G} {aC : Nat → ClassId} {ad : Nat → Nat} (hC : fCx p s m args c vwCl D aC TB ad (fFr ad TB) goodTs cX6_merge RX6 14) (hr : meth.sig.returnType = none) (hk : meth.locks = false) (a1 a3 a5 a7 a8 a9 a10 a11 : Int)  (r : Int → Int → Int → Int → fMem → fOp) (hrc : ∀ (z7 z8 z9 z10 : Int) (M : fMem), GM l p e s m args below meth c D aC ad 14 4 102 2 37 [(0, .ref (ad 115)), (1, .long (fL a1)), (3, .long (fL a3)), (5, .long (fL a5)), (7, .int (fI z7)), (8, .int (fI z8)), (9, .int (fI z9)), (10, .int (fI z10))] [] M (r z7 z8 z9 z10 M)) (M : fMem) : GM l p e s m args below meth c D aC ad 14 4 102 2 96 [(0, .ref (ad 115)), (1, .long (fL a1)), (3, .long (fL a3)), (5, .long (fL a5)), (7, .int (fI a7)), (8, .int (fI a8)), (9, .int (fI a9)), (10, .int (fI a10)), (11, .int (fI a11))] [] M (dn_X6_merge_J96 r a1 a3 a5 a7 a8 a9 a10 a11 M) := by
  unfold dn_X6_merge_J96
  refine g_iload hC 8 98 rfl dX6_merge_96 rfl ?_
  refine g_if_eq hC 111 101 dX6_merge_98 rfl rfl ?_ ?_
  · refine g_lload_n hC 2 112 rfl dX6_merge_111 rfl rfl ?_
    refine g_cS hC 115 1 [.long (fL a3)] [] (cn_X6_size l a3 _) rfl rfl gw_607 gw_609 gw_65 gw_608 (by decide +kernel) rfl ⟨Nat.le_of_ble_eq_true rfl, Nat.le_of_ble_eq_true rfl⟩ (Nat.le_of_ble_eq_true rfl) ⟨Nat.zero_le _, Nat.zero_le _⟩ dX6_merge_112 rfl (fun v11 => .int (fI v11) :: []) (fun _ => rfl) (fun v11 M12 => ?_)
    exact wk_X6_merge_J115 hC hr hk _ _ _ _ _ _ _ _ _ _ hrc _
  · refine g_aload_n hC 0 102 rfl dX6_merge_101 rfl rfl ?_
    refine g_getA hC 105 inX6 rfl 17 (by decide) gw_544 rfl tb_MD rfl dX6_merge_102 rfl ?_
    refine g_iload hC 7 107 rfl dX6_merge_105 rfl ?_
    refine g_iald hC 108 tb_MD_18 (by decide) dX6_merge_107 rfl (fun x41 => ?_)
    refine g_goto hC 115 dX6_merge_108 rfl ?_
    exact wk_X6_merge_J115 hC hr hk _ _ _ _ _ _ _ _ _ _ hrc _
def dn_X6_merge_J80  (r : Int → Int → Int → Int → fMem → fOp) (a1 a3 a5 a7 a8 a9 a10 as0 : Int) (M : fMem) : fOp :=
  fEq as0 0 (fCl (dn_X6_size a1 M) (fun v42 M43 => fEq a10 v42 (dn_X6_merge_J96 r a1 a3 a5 a7 a8 a9 a10 as0 M43) (dn_X6_merge_J289 r a1 a3 a5 a7 a8 a9 a10 as0 M43))) (dn_X6_merge_J96 r a1 a3 a5 a7 a8 a9 a10 as0 M)
set_option maxRecDepth 100000 in
set_option maxHeartbeats 4000000 in
theorem wk_X6_merge_J80 {l : Launch} {p : Program} {e : Env} {s : State} {m : MethodId} {args : Array Value} {below : List Frame} {meth : Method} {c : Code} {D : va_G} {aC : Nat → ClassId} {ad : Nat → Nat} (hC : fCx p s m args c vwCl D aC TB ad (fFr ad TB) goodTs cX6_merge RX6 14) (hr : meth.sig.returnType = none) (hk : meth.locks = false) (a1 a3 a5 a7 a8 a9 a10 as0 : Int)  (r : Int → Int → Int → Int → fMem → fOp) (hrc : ∀ (z7 z8 z9 z10 : Int) (M : fMem), GM l p e s m args below meth c D aC ad 14 4 102 2 37 [(0, .ref (ad 115)), (1, .long (fL a1)), (3, .long (fL a3)), (5, .long (fL a5)), (7, .int (fI z7)), (8, .int (fI z8)), (9, .int (fI z9)), (10, .int (fI z10))] [] M (r z7 z8 z9 z10 M)) (M : fMem) : GM l p e s m args below meth c D aC ad 14 4 102 2 80 [(0, .ref (ad 115)), (1, .long (fL a1)), (3, .long (fL a3)), (5, .long (fL a5)), (7, .int (fI a7)), (8, .int (fI a8)), (9, .int (fI a9)), (10, .int (fI a10))] [.int (fI as0)] M (dn_X6_merge_J80 r a1 a3 a5 a7 a8 a9 a10 as0 M) := by
  unfold dn_X6_merge_J80
  refine g_istore hC 82 [(11, .int (fI as0)), (0, .ref (ad 115)), (1, .long (fL a1)), (3, .long (fL a3)), (5, .long (fL a5)), (7, .int (fI a7)), (8, .int (fI a8)), (9, .int (fI a9)), (10, .int (fI a10))] dX6_merge_80 (by decide) rfl rfl ?_
  refine g_iload hC 0 84 rfl dX6_merge_82 rfl ?_
  refine g_if_ne hC 96 87 dX6_merge_84 rfl rfl ?_ ?_
  · refine g_lv [1, 2, 3, 4, 5, 6, 7, 8, 0] rfl ?_
    exact wk_X6_merge_J96 hC hr hk _ _ _ _ _ _ _ _ _ hrc _
  · refine g_iload hC 8 89 rfl dX6_merge_87 rfl ?_
    refine g_lload_n hC 2 90 rfl dX6_merge_89 rfl rfl ?_
    refine g_cS hC 93 1 [.long (fL a1)] [.int (fI a10)] (cn_X6_size l a1 _) rfl rfl gw_607 gw_609 gw_65 gw_608 (by decide +kernel) rfl ⟨Nat.le_of_ble_eq_true rfl, Nat.le_of_ble_eq_true rfl⟩ (Nat.le_of_ble_eq_true rfl) ⟨Nat.zero_le _, Nat.zero_le _⟩ dX6_merge_90 rfl (fun v42 => .int (fI v42) :: [.int (fI a10)]) (fun _ => rfl) (fun v42 M43 => ?_)
    refine g_icmp_ne hC 289 96 dX6_merge_93 rfl rfl ?_ ?_
    · refine g_lv [1, 2, 3, 4, 5, 6, 7, 8, 0] rfl ?_
      exact wk_X6_merge_J289 hC hr hk _ _ _ _ _ _ _ _ _ hrc _
    · refine g_lv [1, 2, 3, 4, 5, 6, 7, 8, 0] rfl ?_
      exact wk_X6_merge_J96 hC hr hk _ _ _ _ _ _ _ _ _ hrc _
def dn_X6_merge_J79  (r : Int → Int → Int → Int → fMem → fOp) (a1 a3 a5 a7 a8 a9 a10 : Int) (M : fMem) : fOp :=
  dn_X6_merge_J80 r a1 a3 a5 a7 a8 a9 a10 0 M
set_option maxRecDepth 100000 in
set_option maxHeartbeats 4000000 in
theorem wk_X6_merge_J79 {l : Launch} {p : Program} {e : Env} {s : State} {m : MethodId} {args : Array Value} {below : List Frame} {meth : Method} {c : Code} {D : va_G} {aC : Nat → ClassId} {ad : Nat → Nat} (hC : fCx p s m args c vwCl D aC TB ad (fFr ad TB) goodTs cX6_merge RX6 14) (hr : meth.sig.returnType = none) (hk : meth.locks = false) (a1 a3 a5 a7 a8 a9 a10 : Int)  (r : Int → Int → Int → Int → fMem → fOp) (hrc : ∀ (z7 z8 z9 z10 : Int) (M : fMem), GM l p e s m args below meth c D aC ad 14 4 102 2 37 [(0, .ref (ad 115)), (1, .long (fL a1)), (3, .long (fL a3)), (5, .long (fL a5)), (7, .int (fI z7)), (8, .int (fI z8)), (9, .int (fI z9)), (10, .int (fI z10))] [] M (r z7 z8 z9 z10 M)) (M : fMem) : GM l p e s m args below meth c D aC ad 14 4 102 2 79 [(0, .ref (ad 115)), (1, .long (fL a1)), (3, .long (fL a3)), (5, .long (fL a5)), (7, .int (fI a7)), (8, .int (fI a8)), (9, .int (fI a9)), (10, .int (fI a10))] [] M (dn_X6_merge_J79 r a1 a3 a5 a7 a8 a9 a10 M) := by
  unfold dn_X6_merge_J79
  refine g_iconst hC 80 dX6_merge_79 rfl ?_
  exact wk_X6_merge_J80 hC hr hk _ _ _ _ _ _ _ _ _ hrc _
def dn_X6_merge_L37B  (a1 a3 a5 : Int) (r : Int → Int → Int → Int → fMem → fOp) (a7 a8 a9 a10 : Int) (M : fMem) : fOp :=
  fCl (dn_X6_size a1 M) (fun v7 M8 => fLt v7 a10 (some (0, M8)) (fCl (dn_X6_size a1 M8) (fun v9 M10 => fLe v9 a10 (dn_X6_merge_J79 r a1 a3 a5 a7 a8 a9 a10 M10) (fRd M10 133 13 a10 (fun x44 => fLt x44 0 (dn_X6_merge_J79 r a1 a3 a5 a7 a8 a9 a10 M10) (fRd M10 134 13 a10 (fun x45 => fLt x45 0 (dn_X6_merge_J79 r a1 a3 a5 a7 a8 a9 a10 M10) (dn_X6_merge_J80 r a1 a3 a5 a7 a8 a9 a10 1 M10))))))))
def dn_X6_merge_L37  (a1 a3 a5 : Int) : Nat → Int → Int → Int → Int → fMem → fOp
  | 0, _, _, _, _, _ => none
  | n + 1, a7, a8, a9, a10, M => dn_X6_merge_L37B a1 a3 a5 (fun a7 a8 a9 a10 M => dn_X6_merge_L37 a1 a3 a5 n a7 a8 a9 a10 M) a7 a8 a9 a10 M
set_option maxRecDepth 100000 in
set_option maxHeartbeats 4000000 in
theorem wk_X6_merge_L37B {l : Launch} {p : Program} {e : Env} {s : State} {m : MethodId} {args : Array Value} {below : List Frame} {meth : Method} {c : Code} {D : va_G} {aC : Nat → ClassId} {ad : Nat → Nat} (hC : fCx p s m args c vwCl D aC TB ad (fFr ad TB) goodTs cX6_merge RX6 14) (hr : meth.sig.returnType = none) (hk : meth.locks = false) (a1 a3 a5 : Int) (r : Int → Int → Int → Int → fMem → fOp) (hrc : ∀ (a7 a8 a9 a10 : Int) (M : fMem), GM l p e s m args below meth c D aC ad 14 4 102 2 37 [(0, .ref (ad 115)), (1, .long (fL a1)), (3, .long (fL a3)), (5, .long (fL a5)), (7, .int (fI a7)), (8, .int (fI a8)), (9, .int (fI a9)), (10, .int (fI a10))] [] M (r a7 a8 a9 a10 M)) (a7 a8 a9 a10 : Int) (M : fMem) : GM l p e s m args below meth c D aC ad 14 4 102 2 37 [(0, .ref (ad 115)), (1, .long (fL a1)), (3, .long (fL a3)), (5, .long (fL a5)), (7, .int (fI a7)), (8, .int (fI a8)), (9, .int (fI a9)), (10, .int (fI a10))] [] M (dn_X6_merge_L37B a1 a3 a5 r a7 a8 a9 a10 M) := by
  unfold dn_X6_merge_L37B
  refine g_iload hC 7 39 rfl dX6_merge_37 rfl ?_
  refine g_lload_n hC 1 40 rfl dX6_merge_39 rfl rfl ?_
  refine g_cS hC 43 1 [.long (fL a1)] [.int (fI a10)] (cn_X6_size l a1 _) rfl rfl gw_607 gw_609 gw_65 gw_608 (by decide +kernel) rfl ⟨Nat.le_of_ble_eq_true rfl, Nat.le_of_ble_eq_true rfl⟩ (Nat.le_of_ble_eq_true rfl) ⟨Nat.zero_le _, Nat.zero_le _⟩ dX6_merge_40 rfl (fun v7 => .int (fI v7) :: [.int (fI a10)]) (fun _ => rfl) (fun v7 M8 => ?_)
  refine g_icmp_gt hC 295 46 dX6_merge_43 rfl rfl ?_ ?_
  · exact g_return hC hr hk dX6_merge_295
  · refine g_iload hC 7 48 rfl dX6_merge_46 rfl ?_
    refine g_lload_n hC 1 49 rfl dX6_merge_48 rfl rfl ?_
    refine g_cS hC 52 1 [.long (fL a1)] [.int (fI a10)] (cn_X6_size l a1 _) rfl rfl gw_607 gw_609 gw_65 gw_608 (by decide +kernel) rfl ⟨Nat.le_of_ble_eq_true rfl, Nat.le_of_ble_eq_true rfl⟩ (Nat.le_of_ble_eq_true rfl) ⟨Nat.zero_le _, Nat.zero_le _⟩ dX6_merge_49 rfl (fun v9 => .int (fI v9) :: [.int (fI a10)]) (fun _ => rfl) (fun v9 M10 => ?_)
    refine g_icmp_ge hC 79 55 dX6_merge_52 rfl rfl ?_ ?_
    · exact wk_X6_merge_J79 hC hr hk _ _ _ _ _ _ _ _ hrc _
    · refine g_aload_n hC 0 56 rfl dX6_merge_55 rfl rfl ?_
      refine g_getA hC 59 inX6 rfl 17 (by decide) gw_544 rfl tb_MD rfl dX6_merge_56 rfl ?_
      refine g_iload hC 7 61 rfl dX6_merge_59 rfl ?_
      refine g_iald hC 62 tb_MD_18 (by decide) dX6_merge_61 rfl (fun x44 => ?_)
      refine g_if_lt hC 79 65 dX6_merge_62 rfl rfl ?_ ?_
      · exact wk_X6_merge_J79 hC hr hk _ _ _ _ _ _ _ _ hrc _
      · refine g_aload_n hC 0 66 rfl dX6_merge_65 rfl rfl ?_
        refine g_getA hC 69 inX6 rfl 18 (by decide) gw_545 rfl tb_MD rfl dX6_merge_66 rfl ?_
        refine g_iload hC 7 71 rfl dX6_merge_69 rfl ?_
        refine g_iald hC 72 tb_MD_19 (by decide) dX6_merge_71 rfl (fun x45 => ?_)
        refine g_if_lt hC 79 75 dX6_merge_72 rfl rfl ?_ ?_
        · exact wk_X6_merge_J79 hC hr hk _ _ _ _ _ _ _ _ hrc _
        · refine g_iconst hC 76 dX6_merge_75 rfl ?_
          refine g_goto hC 80 dX6_merge_76 rfl ?_
          exact wk_X6_merge_J80 hC hr hk _ _ _ _ _ _ _ _ _ hrc _
set_option maxRecDepth 100000 in
set_option maxHeartbeats 4000000 in
theorem wk_X6_merge_L37 {l : Launch} {p : Program} {e : Env} {s : State} {m : MethodId} {args : Array Value} {below : List Frame} {meth : Method} {c : Code} {D : va_G} {aC : Nat → ClassId} {ad : Nat → Nat} (hC : fCx p s m args c vwCl D aC TB ad (fFr ad TB) goodTs cX6_merge RX6 14) (hr : meth.sig.returnType = none) (hk : meth.locks = false) (a1 a3 a5 : Int) (n : Nat) : ∀ (a7 a8 a9 a10 : Int) (M : fMem), GM l p e s m args below meth c D aC ad 14 4 102 2 37 [(0, .ref (ad 115)), (1, .long (fL a1)), (3, .long (fL a3)), (5, .long (fL a5)), (7, .int (fI a7)), (8, .int (fI a8)), (9, .int (fI a9)), (10, .int (fI a10))] [] M (dn_X6_merge_L37 a1 a3 a5 n a7 a8 a9 a10 M) := by
  induction n with
  | zero => intro a7 a8 a9 a10 M; exact g_none
  | succ n ih => intro a7 a8 a9 a10 M; exact wk_X6_merge_L37B hC hr hk a1 a3 a5 (fun a7 a8 a9 a10 M => dn_X6_merge_L37 a1 a3 a5 n a7 a8 a9 a10 M) ih a7 a8 a9 a10 M
def dn_X6_merge (a1 : Int) (a3 : Int) (a5 : Int) (M : fMem) : fOp :=
  fCl (dn_X6_pairUp a1 a3 1 M) (fun _ M2 => fCl (dn_X6_pairUp a1 a5 0 M2) (fun _ M4 => fPt M4 115 20 0 (fun M5 => fPz M5 115 21 0 (fun M6 => dn_X6_merge_L37 a1 a3 a5 600 0 0 0 0 M6))))
set_option maxRecDepth 100000 in
set_option maxHeartbeats 4000000 in
theorem wk_X6_merge {l : Launch} {p : Program} {e : Env} {s : State} {m : MethodId} {args : Array Value} {below : List Frame} {meth : Method} {c : Code} {D : va_G} {aC : Nat → ClassId} {ad : Nat → Nat} (hC : fCx p s m args c vwCl D aC TB ad (fFr ad TB) goodTs cX6_merge RX6 14) (hr : meth.sig.returnType = none) (hk : meth.locks = false) (a1 : Int) (a3 : Int) (a5 : Int) (M : fMem) : GM l p e s m args below meth c D aC ad 14 4 102 2 0 [(0, .ref (ad 115)), (1, .long (fL a1)), (3, .long (fL a3)), (5, .long (fL a5))] [] M (dn_X6_merge a1 a3 a5 M) := by
  unfold dn_X6_merge
  refine g_aload_n hC 0 1 rfl dX6_merge_0 rfl rfl ?_
  refine g_lload_n hC 1 2 rfl dX6_merge_1 rfl rfl ?_
  refine g_lload_n hC 2 3 rfl dX6_merge_2 rfl rfl ?_
  refine g_iconst hC 4 dX6_merge_3 rfl ?_
  refine g_cV hC 7 3 [.long (fL a1), .long (fL a3), .int (fI 1)] [] (cn_X6_pairUp l a1 a3 1 _) rfl rfl tb_MD rfl gw_682 gw_685 gw_65 gw_684 gw_48 (by decide +kernel) rfl ⟨Nat.le_of_ble_eq_true rfl, Nat.le_of_ble_eq_true rfl⟩ (Nat.le_of_ble_eq_true rfl) ⟨Nat.zero_le _, Nat.zero_le _⟩ dX6_merge_4 rfl (fun _ => []) (fun _ => rfl) (fun _ M2 => ?_)
  refine g_aload_n hC 0 8 rfl dX6_merge_7 rfl rfl ?_
  refine g_lload_n hC 1 9 rfl dX6_merge_8 rfl rfl ?_
  refine g_lload hC 3 11 rfl dX6_merge_9 rfl ?_
  refine g_iconst hC 12 dX6_merge_11 rfl ?_
  refine g_cV hC 15 3 [.long (fL a1), .long (fL a5), .int (fI 0)] [] (cn_X6_pairUp l a1 a5 0 _) rfl rfl tb_MD rfl gw_682 gw_685 gw_65 gw_684 gw_48 (by decide +kernel) rfl ⟨Nat.le_of_ble_eq_true rfl, Nat.le_of_ble_eq_true rfl⟩ (Nat.le_of_ble_eq_true rfl) ⟨Nat.zero_le _, Nat.zero_le _⟩ dX6_merge_12 rfl (fun _ => []) (fun _ => rfl) (fun _ M4 => ?_)
  refine g_aload_n hC 0 16 rfl dX6_merge_15 rfl rfl ?_
  refine g_iconst hC 17 dX6_merge_16 rfl ?_
  refine g_putI hC 20 tyX6 tyX6_ok nmX6 inX6 rfl 20 (by decide) gw_547 rfl rfl (by decide +kernel) tb_MD rfl dX6_merge_17 rfl (fun M5 => ?_)
  refine g_aload_n hC 0 21 rfl dX6_merge_20 rfl rfl ?_
  refine g_iconst hC 22 dX6_merge_21 rfl ?_
  refine g_putZ hC 25 tyX6 tyX6_ok nmX6 inX6 rfl 21 (by decide) gw_548 rfl rfl (by decide +kernel) tb_MD rfl dX6_merge_22 rfl (fun M6 => ?_)
  refine g_iconst hC 26 dX6_merge_25 rfl ?_
  refine g_istore hC 28 [(7, .int (fI 0)), (0, .ref (ad 115)), (1, .long (fL a1)), (3, .long (fL a3)), (5, .long (fL a5))] dX6_merge_26 (by decide) rfl rfl ?_
  refine g_iconst hC 29 dX6_merge_28 rfl ?_
  refine g_istore hC 31 [(8, .int (fI 0)), (7, .int (fI 0)), (0, .ref (ad 115)), (1, .long (fL a1)), (3, .long (fL a3)), (5, .long (fL a5))] dX6_merge_29 (by decide) rfl rfl ?_
  refine g_iconst hC 32 dX6_merge_31 rfl ?_
  refine g_istore hC 34 [(9, .int (fI 0)), (8, .int (fI 0)), (7, .int (fI 0)), (0, .ref (ad 115)), (1, .long (fL a1)), (3, .long (fL a3)), (5, .long (fL a5))] dX6_merge_32 (by decide) rfl rfl ?_
  refine g_iconst hC 35 dX6_merge_34 rfl ?_
  refine g_istore hC 37 [(10, .int (fI 0)), (9, .int (fI 0)), (8, .int (fI 0)), (7, .int (fI 0)), (0, .ref (ad 115)), (1, .long (fL a1)), (3, .long (fL a3)), (5, .long (fL a5))] dX6_merge_35 (by decide) rfl rfl ?_
  refine g_lv [4, 5, 6, 7, 3, 2, 1, 0] rfl ?_
  refine wk_X6_merge_L37 hC hr hk _ _ _ 600 _ _ _ _ _
theorem cn_X6_merge (l : Launch) (a1 : Int) (a3 : Int) (a5 : Int) (M : fMem) : fMt l vwCl TB yX6_merge cX6_merge 14 (none) 4 102 2 (fun ad => [.ref (ad 115), .long (fL a1), .long (fL a3), .long (fL a5)]) M (dn_X6_merge a1 a3 a5 M) :=
  fMt.of (by decide +kernel) (fun _ => Nat.le_of_ble_eq_true rfl) (fun p e s m args below meth c D aC ad hC hr hk => wk_X6_merge hC hr hk a1 a3 a5 M)
def dn_X6_mergedText_L4B  (r : Int → Int → fMem → fOp) (a1 a3 : Int) (M : fMem) : fOp :=
  fGt M 115 20 (fun x1 => fLe x1 a3 (some (a1, M)) (fRd M 135 64 a3 (fun x2 => fX2 x2 (r ((32 * a1) + x2) (a3 + 1) M))))
def dn_X6_mergedText_L4  : Nat → Int → Int → fMem → fOp
  | 0, _, _, _ => none
  | n + 1, a1, a3, M => dn_X6_mergedText_L4B (fun a1 a3 M => dn_X6_mergedText_L4 n a1 a3 M) a1 a3 M
set_option maxRecDepth 100000 in
set_option maxHeartbeats 4000000 in
theorem wk_X6_mergedText_L4B {l : Launch} {p : Program} {e : Env} {s : State} {m : MethodId} {args : Array Value} {below : List Frame} {meth : Method} {c : Code} {D : va_G} {aC : Nat → ClassId} {ad : Nat → Nat} (hC : fCx p s m args c vwCl D aC TB ad (fFr ad TB) goodTs cX6_mergedText RX6 4) (hr : meth.sig.returnType = some .long) (hk : meth.locks = false) (r : Int → Int → fMem → fOp) (hrc : ∀ (a1 a3 : Int) (M : fMem), GM l p e s m args below meth c D aC ad 4 0 0 1 4 [(0, .ref (ad 115)), (1, .long (fL a1)), (3, .int (fI a3))] [] M (r a1 a3 M)) (a1 a3 : Int) (M : fMem) : GM l p e s m args below meth c D aC ad 4 0 0 1 4 [(0, .ref (ad 115)), (1, .long (fL a1)), (3, .int (fI a3))] [] M (dn_X6_mergedText_L4B r a1 a3 M) := by
  unfold dn_X6_mergedText_L4B
  refine g_iload_n hC 2 5 rfl dX6_mergedText_4 rfl rfl ?_
  refine g_aload_n hC 0 6 rfl dX6_mergedText_5 rfl rfl ?_
  refine g_getI hC 9 inX6 rfl 20 (by decide) gw_547 rfl tb_MD rfl dX6_mergedText_6 rfl (fun x1 => ?_)
  refine g_icmp_ge hC 32 12 dX6_mergedText_9 rfl rfl ?_ ?_
  · refine g_lload_n hC 1 33 rfl dX6_mergedText_32 rfl rfl ?_
    exact g_lreturn hC hr hk dX6_mergedText_33
  · refine g_ldc2 hC 32 15 gw_610 dX6_mergedText_12 rfl ?_
    refine g_lload_n hC 1 16 rfl dX6_mergedText_15 rfl rfl ?_
    refine g_lmul hC 17 dX6_mergedText_16 rfl ?_
    refine g_aload_n hC 0 18 rfl dX6_mergedText_17 rfl rfl ?_
    refine g_getA hC 21 inX6 rfl 19 (by decide) gw_546 rfl tb_MD rfl dX6_mergedText_18 rfl ?_
    refine g_iload_n hC 2 22 rfl dX6_mergedText_21 rfl rfl ?_
    refine g_iald hC 23 tb_MD_20 (by decide) dX6_mergedText_22 rfl (fun x2 => ?_)
    refine g_i2l hC 24 dX6_mergedText_23 rfl ?_
    refine g_ladd hC 25 dX6_mergedText_24 rfl ?_
    refine g_lstore_n hC 26 [(1, .long (fL ((32 * a1) + x2))), (0, .ref (ad 115)), (3, .int (fI a3))] dX6_mergedText_25 rfl (by decide) rfl rfl ?_
    refine g_iinc hC 2 29 [(3, .int (fI (a3 + 1))), (1, .long (fL ((32 * a1) + x2))), (0, .ref (ad 115))] rfl dX6_mergedText_26 (by decide) rfl rfl ?_
    refine g_goto hC 4 dX6_mergedText_29 rfl ?_
    refine g_lv [2, 1, 0] rfl ?_
    exact hrc _ _ _
set_option maxRecDepth 100000 in
set_option maxHeartbeats 4000000 in
theorem wk_X6_mergedText_L4 {l : Launch} {p : Program} {e : Env} {s : State} {m : MethodId} {args : Array Value} {below : List Frame} {meth : Method} {c : Code} {D : va_G} {aC : Nat → ClassId} {ad : Nat → Nat} (hC : fCx p s m args c vwCl D aC TB ad (fFr ad TB) goodTs cX6_mergedText RX6 4) (hr : meth.sig.returnType = some .long) (hk : meth.locks = false) (n : Nat) : ∀ (a1 a3 : Int) (M : fMem), GM l p e s m args below meth c D aC ad 4 0 0 1 4 [(0, .ref (ad 115)), (1, .long (fL a1)), (3, .int (fI a3))] [] M (dn_X6_mergedText_L4 n a1 a3 M) := by
  induction n with
  | zero => intro a1 a3 M; exact g_none
  | succ n ih => intro a1 a3 M; exact wk_X6_mergedText_L4B hC hr hk (fun a1 a3 M => dn_X6_mergedText_L4 n a1 a3 M) ih a1 a3 M
def dn_X6_mergedText (M : fMem) : fOp :=
  dn_X6_mergedText_L4 600 0 0 M
set_option maxRecDepth 100000 in
set_option maxHeartbeats 4000000 in
theorem wk_X6_mergedText {l : Launch} {p : Program} {e : Env} {s : State} {m : MethodId} {args : Array Value} {below : List Frame} {meth : Method} {c : Code} {D : va_G} {aC : Nat → ClassId} {ad : Nat → Nat} (hC : fCx p s m args c vwCl D aC TB ad (fFr ad TB) goodTs cX6_mergedText RX6 4) (hr : meth.sig.returnType = some .long) (hk : meth.locks = false) (M : fMem) : GM l p e s m args below meth c D aC ad 4 0 0 1 0 [(0, .ref (ad 115))] [] M (dn_X6_mergedText M) := by
  unfold dn_X6_mergedText
  refine g_lconst hC 0 1 dX6_mergedText_0 rfl (by decide +kernel) ?_
  refine g_lstore_n hC 2 [(1, .long (fL 0)), (0, .ref (ad 115))] dX6_mergedText_1 rfl (by decide) rfl rfl ?_
  refine g_iconst hC 3 dX6_mergedText_2 rfl ?_
  refine g_istore_n hC 4 [(3, .int (fI 0)), (1, .long (fL 0)), (0, .ref (ad 115))] dX6_mergedText_3 rfl (by decide) rfl rfl ?_
  refine g_lv [2, 1, 0] rfl ?_
  refine wk_X6_mergedText_L4 hC hr hk 600 _ _ _
theorem cn_X6_mergedText (l : Launch) (M : fMem) : fMt l vwCl TB yX6_mergedText cX6_mergedText 4 (some .long) 0 0 1 (fun ad => [.ref (ad 115)]) M (dn_X6_mergedText M) :=
  fMt.of (by decide +kernel) (fun _ => Nat.le_of_ble_eq_true rfl) (fun p e s m args below meth c D aC ad hC hr hk => wk_X6_mergedText hC hr hk M)
def dn_X6_updated_J79  (a1 a2 a3 a4 a5 : Int) (M : fMem) : fOp :=
  fEq a5 0 (fRd M 129 12 a2 (fun x4 => fEq x4 0 (fEq a3 a4 (some (0, M)) (fCl (dn_X6_modified a1 a2 M) (fun v5 M6 => fEq v5 0 (fCl (dn_X6_take a1 a2 a3 M6) (fun _ M19 => some (2, M19))) (fRd M6 117 96 ((24 * a1) + a4) (fun x7 => fRd M6 130 12 a2 (fun x8 => fRd M6 117 96 ((24 * a1) + a3) (fun x9 => fCl (dn_X6_merge x7 x8 x9 M6) (fun _ M11 => fGt M11 115 20 (fun x12 => fLe x12 12 (fCl (dn_X6_mergedText M11) (fun v13 M14 => fWr M14 130 12 a2 v13 (fun M15 => fWr M15 128 12 a2 a3 (fun M16 => fGt M16 115 21 (fun x17 => fEq x17 0 (some (4, M16)) (some (5, M16))))))) (some ((-7), M11))))))))))) (some (0, M)))) (fWr M 128 12 a2 (-1) (fun M20 => fWz M20 129 12 a2 0 (fun M21 => some (1, M21))))
set_option maxRecDepth 100000 in
set_option maxHeartbeats 4000000 in
theorem wk_X6_updated_J79 {l : Launch} {p : Program} {e : Env} {s : State} {m : MethodId} {args : Array Value} {below : List Frame} {meth : Method} {c : Code} {D : va_G} {aC : Nat → ClassId} {ad : Nat → Nat} (hC : fCx p s m args c vwCl D aC TB ad (fFr ad TB) goodTs cX6_updated RX6 6) (hr : meth.sig.returnType = some .int) (hk : meth.locks = false) (a1 a2 a3 a4 a5 : Int)  (M : fMem) : GM l p e s m args below meth c D aC ad 6 5 135 0 79 [(0, .ref (ad 115)), (1, .int (fI a1)), (2, .int (fI a2)), (3, .int (fI a3)), (4, .int (fI a4)), (5, .int (fI a5))] [] M (dn_X6_updated_J79 a1 a2 a3 a4 a5 M) := by
  unfold dn_X6_updated_J79
  refine g_iload hC 5 81 rfl dX6_updated_79 rfl ?_
  refine g_if_eq hC 100 84 dX6_updated_81 rfl rfl ?_ ?_
  · refine g_aload_n hC 0 101 rfl dX6_updated_100 rfl rfl ?_
    refine g_getA hC 104 inX6 rfl 13 (by decide) gw_540 rfl tb_MD rfl dX6_updated_101 rfl ?_
    refine g_iload_n hC 2 105 rfl dX6_updated_104 rfl rfl ?_
    refine g_zald hC 106 tb_MD_14 (by decide) dX6_updated_105 rfl (fun x4 => ?_)
    refine g_if_ne hC 115 109 dX6_updated_106 rfl rfl ?_ ?_
    · refine g_iconst hC 116 dX6_updated_115 rfl ?_
      exact g_ireturn hC hr hk dX6_updated_116
    · refine g_iload_n hC 3 110 rfl dX6_updated_109 rfl rfl ?_
      refine g_iload hC 4 112 rfl dX6_updated_110 rfl ?_
      refine g_icmp_ne hC 117 115 dX6_updated_112 rfl rfl ?_ ?_
      · refine g_aload_n hC 0 118 rfl dX6_updated_117 rfl rfl ?_
        refine g_iload_n hC 1 119 rfl dX6_updated_118 rfl rfl ?_
        refine g_iload_n hC 2 120 rfl dX6_updated_119 rfl rfl ?_
        refine g_cV hC 123 2 [.int (fI a1), .int (fI a2)] [] (cn_X6_modified l a1 a2 _) rfl rfl tb_MD rfl gw_650 gw_653 gw_65 gw_652 gw_41 (by decide +kernel) rfl ⟨Nat.le_of_ble_eq_true rfl, Nat.le_of_ble_eq_true rfl⟩ (Nat.le_of_ble_eq_true rfl) ⟨Nat.zero_le _, Nat.zero_le _⟩ dX6_updated_120 rfl (fun v5 => .int (fI v5) :: []) (fun _ => rfl) (fun v5 M6 => ?_)
        refine g_if_ne hC 135 126 dX6_updated_123 rfl rfl ?_ ?_
        · refine g_aload_n hC 0 136 rfl dX6_updated_135 rfl rfl ?_
          refine g_aload_n hC 0 137 rfl dX6_updated_136 rfl rfl ?_
          refine g_getA hC 140 inX6 rfl 1 (by decide) gw_528 rfl tb_MD rfl dX6_updated_137 rfl ?_
          refine g_bipush hC 142 dX6_updated_140 rfl (by decide +kernel) ?_
          refine g_iload_n hC 1 143 rfl dX6_updated_142 rfl rfl ?_
          refine g_imul hC 144 dX6_updated_143 rfl ?_
          refine g_iload hC 4 146 rfl dX6_updated_144 rfl ?_
          refine g_iadd hC 147 dX6_updated_146 rfl ?_
          refine g_lald hC 148 tb_MD_2 (by decide) dX6_updated_147 rfl (fun x7 => ?_)
          refine g_aload_n hC 0 149 rfl dX6_updated_148 rfl rfl ?_
          refine g_getA hC 152 inX6 rfl 14 (by decide) gw_541 rfl tb_MD rfl dX6_updated_149 rfl ?_
          refine g_iload_n hC 2 153 rfl dX6_updated_152 rfl rfl ?_
          refine g_lald hC 154 tb_MD_15 (by decide) dX6_updated_153 rfl (fun x8 => ?_)
          refine g_aload_n hC 0 155 rfl dX6_updated_154 rfl rfl ?_
          refine g_getA hC 158 inX6 rfl 1 (by decide) gw_528 rfl tb_MD rfl dX6_updated_155 rfl ?_
          refine g_bipush hC 160 dX6_updated_158 rfl (by decide +kernel) ?_
          refine g_iload_n hC 1 161 rfl dX6_updated_160 rfl rfl ?_
          refine g_imul hC 162 dX6_updated_161 rfl ?_
          refine g_iload_n hC 3 163 rfl dX6_updated_162 rfl rfl ?_
          refine g_iadd hC 164 dX6_updated_163 rfl ?_
          refine g_lald hC 165 tb_MD_2 (by decide) dX6_updated_164 rfl (fun x9 => ?_)
          refine g_cV hC 168 3 [.long (fL x7), .long (fL x8), .long (fL x9)] [] (cn_X6_merge l x7 x8 x9 _) rfl rfl tb_MD rfl gw_678 gw_681 gw_65 gw_680 gw_47 (by decide +kernel) rfl ⟨Nat.le_of_ble_eq_true rfl, Nat.le_of_ble_eq_true rfl⟩ (Nat.le_of_ble_eq_true rfl) ⟨Nat.zero_le _, Nat.zero_le _⟩ dX6_updated_165 rfl (fun _ => []) (fun _ => rfl) (fun _ M11 => ?_)
          refine g_aload_n hC 0 169 rfl dX6_updated_168 rfl rfl ?_
          refine g_getI hC 172 inX6 rfl 20 (by decide) gw_547 rfl tb_MD rfl dX6_updated_169 rfl (fun x12 => ?_)
          refine g_bipush hC 174 dX6_updated_172 rfl (by decide +kernel) ?_
          refine g_icmp_le hC 180 177 dX6_updated_174 rfl rfl ?_ ?_
          · refine g_aload_n hC 0 181 rfl dX6_updated_180 rfl rfl ?_
            refine g_getA hC 184 inX6 rfl 14 (by decide) gw_541 rfl tb_MD rfl dX6_updated_181 rfl ?_
            refine g_iload_n hC 2 185 rfl dX6_updated_184 rfl rfl ?_
            refine g_aload_n hC 0 186 rfl dX6_updated_185 rfl rfl ?_
            refine g_cV hC 189 0 [] [.int (fI a2), .ref (ad 130)] (cn_X6_mergedText l _) rfl rfl tb_MD rfl gw_701 gw_704 gw_65 gw_703 gw_52 (by decide +kernel) rfl ⟨Nat.le_of_ble_eq_true rfl, Nat.le_of_ble_eq_true rfl⟩ (Nat.le_of_ble_eq_true rfl) ⟨Nat.zero_le _, Nat.zero_le _⟩ dX6_updated_186 rfl (fun v13 => .long (fL v13) :: [.int (fI a2), .ref (ad 130)]) (fun _ => rfl) (fun v13 M14 => ?_)
            refine g_last hC 190 tb_MD_15 (by decide) dX6_updated_189 rfl (fun M15 => ?_)
            refine g_aload_n hC 0 191 rfl dX6_updated_190 rfl rfl ?_
            refine g_getA hC 194 inX6 rfl 12 (by decide) gw_539 rfl tb_MD rfl dX6_updated_191 rfl ?_
            refine g_iload_n hC 2 195 rfl dX6_updated_194 rfl rfl ?_
            refine g_iload_n hC 3 196 rfl dX6_updated_195 rfl rfl ?_
            refine g_iast hC 197 tb_MD_13 (by decide) dX6_updated_196 rfl (fun M16 => ?_)
            refine g_aload_n hC 0 198 rfl dX6_updated_197 rfl rfl ?_
            refine g_getI hC 201 inX6 rfl 21 (by decide) gw_548 rfl tb_MD rfl dX6_updated_198 rfl (fun x17 => ?_)
            refine g_if_eq hC 208 204 dX6_updated_201 rfl rfl ?_ ?_
            · refine g_iconst hC 209 dX6_updated_208 rfl ?_
              exact g_ireturn hC hr hk dX6_updated_209
            · refine g_iconst hC 205 dX6_updated_204 rfl ?_
              refine g_goto hC 209 dX6_updated_205 rfl ?_
              exact g_ireturn hC hr hk dX6_updated_209
          · refine g_bipush hC 179 dX6_updated_177 rfl (by decide +kernel) ?_
            exact g_ireturn hC hr hk dX6_updated_179
        · refine g_aload_n hC 0 127 rfl dX6_updated_126 rfl rfl ?_
          refine g_iload_n hC 1 128 rfl dX6_updated_127 rfl rfl ?_
          refine g_iload_n hC 2 129 rfl dX6_updated_128 rfl rfl ?_
          refine g_iload_n hC 3 130 rfl dX6_updated_129 rfl rfl ?_
          refine g_cV hC 133 3 [.int (fI a1), .int (fI a2), .int (fI a3)] [] (cn_X6_take l a1 a2 a3 _) rfl rfl tb_MD rfl gw_674 gw_677 gw_65 gw_676 gw_46 (by decide +kernel) rfl ⟨Nat.le_of_ble_eq_true rfl, Nat.le_of_ble_eq_true rfl⟩ (Nat.le_of_ble_eq_true rfl) ⟨Nat.zero_le _, Nat.zero_le _⟩ dX6_updated_130 rfl (fun _ => []) (fun _ => rfl) (fun _ M19 => ?_)
          refine g_iconst hC 134 dX6_updated_133 rfl ?_
          exact g_ireturn hC hr hk dX6_updated_134
      · refine g_iconst hC 116 dX6_updated_115 rfl ?_
        exact g_ireturn hC hr hk dX6_updated_116
  · refine g_aload_n hC 0 85 rfl dX6_updated_84 rfl rfl ?_
    refine g_getA hC 88 inX6 rfl 12 (by decide) gw_539 rfl tb_MD rfl dX6_updated_85 rfl ?_
    refine g_iload_n hC 2 89 rfl dX6_updated_88 rfl rfl ?_
    refine g_iconst hC 90 dX6_updated_89 rfl ?_
    refine g_iast hC 91 tb_MD_13 (by decide) dX6_updated_90 rfl (fun M20 => ?_)
    refine g_aload_n hC 0 92 rfl dX6_updated_91 rfl rfl ?_
    refine g_getA hC 95 inX6 rfl 13 (by decide) gw_540 rfl tb_MD rfl dX6_updated_92 rfl ?_
    refine g_iload_n hC 2 96 rfl dX6_updated_95 rfl rfl ?_
    refine g_iconst hC 97 dX6_updated_96 rfl ?_
    refine g_zast hC 98 tb_MD_14 (by decide) dX6_updated_97 rfl (fun M21 => ?_)
    refine g_iconst hC 99 dX6_updated_98 rfl ?_
    exact g_ireturn hC hr hk dX6_updated_99
def dn_X6_updated_J34  (a1 a2 a3 a4 a5 : Int) (M : fMem) : fOp :=
  fEq a5 0 (some (2, M)) (some (0, M))
set_option maxRecDepth 100000 in
set_option maxHeartbeats 4000000 in
theorem wk_X6_updated_J34 {l : Launch} {p : Program} {e : Env} {s : State} {m : MethodId} {args : Array Value} {below : List Frame} {meth : Method} {c : Code} {D : va_G} {aC : Nat → ClassId} {ad : Nat → Nat} (hC : fCx p s m args c vwCl D aC TB ad (fFr ad TB) goodTs cX6_updated RX6 6) (hr : meth.sig.returnType = some .int) (hk : meth.locks = false) (a1 a2 a3 a4 a5 : Int)  (M : fMem) : GM l p e s m args below meth c D aC ad 6 5 135 0 34 [(0, .ref (ad 115)), (1, .int (fI a1)), (2, .int (fI a2)), (3, .int (fI a3)), (4, .int (fI a4)), (5, .int (fI a5))] [] M (dn_X6_updated_J34 a1 a2 a3 a4 a5 M) := by
  unfold dn_X6_updated_J34
  refine g_iload hC 5 36 rfl dX6_updated_34 rfl ?_
  refine g_if_eq hC 43 39 dX6_updated_36 rfl rfl ?_ ?_
  · refine g_iconst hC 44 dX6_updated_43 rfl ?_
    exact g_ireturn hC hr hk dX6_updated_44
  · refine g_iconst hC 40 dX6_updated_39 rfl ?_
    refine g_goto hC 44 dX6_updated_40 rfl ?_
    exact g_ireturn hC hr hk dX6_updated_44
def dn_X6_updated (a1 : Int) (a2 : Int) (a3 : Int) (M : fMem) : fOp :=
  fRd M 128 12 a2 (fun x1 => fCl (dn_X6_noneOrDead a1 a3 M) (fun v2 M3 => fEq x1 (-1) (fEq v2 0 (fCl (dn_X6_take a1 a2 a3 M3) (fun _ M25 => dn_X6_updated_J34 a1 a2 a3 x1 v2 M25)) (dn_X6_updated_J34 a1 a2 a3 x1 v2 M3)) (fEq x1 (-2) (fEq v2 0 (some (3, M3)) (some (0, M3))) (fEq v2 0 (dn_X6_updated_J79 a1 a2 a3 x1 v2 M3) (fCl (dn_X6_modified a1 a2 M3) (fun v22 M23 => fEq v22 0 (dn_X6_updated_J79 a1 a2 a3 x1 v2 M23) (some (3, M23))))))))
set_option maxRecDepth 100000 in
set_option maxHeartbeats 4000000 in
theorem wk_X6_updated {l : Launch} {p : Program} {e : Env} {s : State} {m : MethodId} {args : Array Value} {below : List Frame} {meth : Method} {c : Code} {D : va_G} {aC : Nat → ClassId} {ad : Nat → Nat} (hC : fCx p s m args c vwCl D aC TB ad (fFr ad TB) goodTs cX6_updated RX6 6) (hr : meth.sig.returnType = some .int) (hk : meth.locks = false) (a1 : Int) (a2 : Int) (a3 : Int) (M : fMem) : GM l p e s m args below meth c D aC ad 6 5 135 0 0 [(0, .ref (ad 115)), (1, .int (fI a1)), (2, .int (fI a2)), (3, .int (fI a3))] [] M (dn_X6_updated a1 a2 a3 M) := by
  unfold dn_X6_updated
  refine g_aload_n hC 0 1 rfl dX6_updated_0 rfl rfl ?_
  refine g_getA hC 4 inX6 rfl 12 (by decide) gw_539 rfl tb_MD rfl dX6_updated_1 rfl ?_
  refine g_iload_n hC 2 5 rfl dX6_updated_4 rfl rfl ?_
  refine g_iald hC 6 tb_MD_13 (by decide) dX6_updated_5 rfl (fun x1 => ?_)
  refine g_istore hC 8 [(4, .int (fI x1)), (0, .ref (ad 115)), (1, .int (fI a1)), (2, .int (fI a2)), (3, .int (fI a3))] dX6_updated_6 (by decide) rfl rfl ?_
  refine g_aload_n hC 1 9 rfl dX6_updated_8 rfl rfl ?_
  refine g_iload_n hC 2 10 rfl dX6_updated_9 rfl rfl ?_
  refine g_iload_n hC 4 11 rfl dX6_updated_10 rfl rfl ?_
  refine g_cV hC 14 2 [.int (fI a1), .int (fI a3)] [] (cn_X6_noneOrDead l a1 a3 _) rfl rfl tb_MD rfl gw_646 gw_649 gw_65 gw_648 gw_40 (by decide +kernel) rfl ⟨Nat.le_of_ble_eq_true rfl, Nat.le_of_ble_eq_true rfl⟩ (Nat.le_of_ble_eq_true rfl) ⟨Nat.zero_le _, Nat.zero_le _⟩ dX6_updated_11 rfl (fun v2 => .int (fI v2) :: []) (fun _ => rfl) (fun v2 M3 => ?_)
  refine g_istore hC 16 [(5, .int (fI v2)), (4, .int (fI x1)), (0, .ref (ad 115)), (1, .int (fI a1)), (2, .int (fI a2)), (3, .int (fI a3))] dX6_updated_14 (by decide) rfl rfl ?_
  refine g_iload hC 1 18 rfl dX6_updated_16 rfl ?_
  refine g_iconst hC 19 dX6_updated_18 rfl ?_
  refine g_icmp_ne hC 45 22 dX6_updated_19 rfl rfl ?_ ?_
  · refine g_iload hC 1 47 rfl dX6_updated_45 rfl ?_
    refine g_bipush hC 49 dX6_updated_47 rfl (by decide +kernel) ?_
    refine g_icmp_ne hC 63 52 dX6_updated_49 rfl rfl ?_ ?_
    · refine g_iload hC 0 65 rfl dX6_updated_63 rfl ?_
      refine g_if_eq hC 79 68 dX6_updated_65 rfl rfl ?_ ?_
      · refine g_lv [2, 3, 4, 5, 1, 0] rfl ?_
        exact wk_X6_updated_J79 hC hr hk _ _ _ _ _ _
      · refine g_aload_n hC 2 69 rfl dX6_updated_68 rfl rfl ?_
        refine g_iload_n hC 3 70 rfl dX6_updated_69 rfl rfl ?_
        refine g_iload_n hC 4 71 rfl dX6_updated_70 rfl rfl ?_
        refine g_cV hC 74 2 [.int (fI a1), .int (fI a2)] [] (cn_X6_modified l a1 a2 _) rfl rfl tb_MD rfl gw_650 gw_653 gw_65 gw_652 gw_41 (by decide +kernel) rfl ⟨Nat.le_of_ble_eq_true rfl, Nat.le_of_ble_eq_true rfl⟩ (Nat.le_of_ble_eq_true rfl) ⟨Nat.zero_le _, Nat.zero_le _⟩ dX6_updated_71 rfl (fun v22 => .int (fI v22) :: []) (fun _ => rfl) (fun v22 M23 => ?_)
        refine g_if_eq hC 79 77 dX6_updated_74 rfl rfl ?_ ?_
        · refine g_lv [2, 3, 4, 5, 1, 0] rfl ?_
          exact wk_X6_updated_J79 hC hr hk _ _ _ _ _ _
        · refine g_iconst hC 78 dX6_updated_77 rfl ?_
          exact g_ireturn hC hr hk dX6_updated_78
    · refine g_iload hC 0 54 rfl dX6_updated_52 rfl ?_
      refine g_if_eq hC 61 57 dX6_updated_54 rfl rfl ?_ ?_
      · refine g_iconst hC 62 dX6_updated_61 rfl ?_
        exact g_ireturn hC hr hk dX6_updated_62
      · refine g_iconst hC 58 dX6_updated_57 rfl ?_
        refine g_goto hC 62 dX6_updated_58 rfl ?_
        exact g_ireturn hC hr hk dX6_updated_62
  · refine g_iload hC 0 24 rfl dX6_updated_22 rfl ?_
    refine g_if_ne hC 34 27 dX6_updated_24 rfl rfl ?_ ?_
    · refine g_lv [2, 3, 4, 5, 1, 0] rfl ?_
      exact wk_X6_updated_J34 hC hr hk _ _ _ _ _ _
    · refine g_aload_n hC 2 28 rfl dX6_updated_27 rfl rfl ?_
      refine g_iload_n hC 3 29 rfl dX6_updated_28 rfl rfl ?_
      refine g_iload_n hC 4 30 rfl dX6_updated_29 rfl rfl ?_
      refine g_iload_n hC 5 31 rfl dX6_updated_30 rfl rfl ?_
      refine g_cV hC 34 3 [.int (fI a1), .int (fI a2), .int (fI a3)] [] (cn_X6_take l a1 a2 a3 _) rfl rfl tb_MD rfl gw_674 gw_677 gw_65 gw_676 gw_46 (by decide +kernel) rfl ⟨Nat.le_of_ble_eq_true rfl, Nat.le_of_ble_eq_true rfl⟩ (Nat.le_of_ble_eq_true rfl) ⟨Nat.zero_le _, Nat.zero_le _⟩ dX6_updated_31 rfl (fun _ => []) (fun _ => rfl) (fun _ M25 => ?_)
      refine g_lv [2, 3, 4, 5, 1, 0] rfl ?_
      exact wk_X6_updated_J34 hC hr hk _ _ _ _ _ _
theorem cn_X6_updated (l : Launch) (a1 : Int) (a2 : Int) (a3 : Int) (M : fMem) : fMt l vwCl TB yX6_updated cX6_updated 6 (some .int) 5 135 0 (fun ad => [.ref (ad 115), .int (fI a1), .int (fI a2), .int (fI a3)]) M (dn_X6_updated a1 a2 a3 M) :=
  fMt.of (by decide +kernel) (fun _ => Nat.le_of_ble_eq_true rfl) (fun p e s m args below meth c D aC ad hC hr hk => wk_X6_updated hC hr hk a1 a2 a3 M)
def dn_X6_update_J118  (a1 a2 a3 a4 a5 a6 as0 as1 : Int) (M : fMem) : fOp :=
  fWr M 131 12 as1 as0 (fun M10 => some (a6, M10))
set_option maxRecDepth 100000 in
set_option maxHeartbeats 4000000 in
theorem wk_X6_update_J118 {l : Launch} {p : Program} {e : Env} {s : State} {m : MethodId} {args : Array Value} {below : List Frame} {meth : Method} {c : Code} {D : va_G} {aC : Nat → ClassId} {ad : Nat → Nat} (hC : fCx p s m args c vwCl D aC TB ad (fFr ad TB) goodTs cX6_update RX6 7) (hr : meth.sig.returnType = some .int) (hk : meth.locks = false) (a1 a2 a3 a4 a5 a6 as0 as1 : Int)  (M : fMem) : GM l p e s m args below meth c D aC ad 7 6 160 0 118 [(0, .ref (ad 115)), (1, .int (fI a1)), (2, .int (fI a2)), (3, .int (fI a3)), (4, .int (fI a4)), (5, .int (fI a5)), (6, .int (fI a6))] [.int (fI as0), .int (fI as1), .ref (ad 131)] M (dn_X6_update_J118 a1 a2 a3 a4 a5 a6 as0 as1 M) := by
  unfold dn_X6_update_J118
  refine g_iast hC 119 tb_MD_16 (by decide) dX6_update_118 rfl (fun M10 => ?_)
  refine g_iload hC 6 121 rfl dX6_update_119 rfl ?_
  exact g_ireturn hC hr hk dX6_update_121
def dn_X6_update_J106  (a1 a2 a3 a4 a5 a6 as0 : Int) (M : fMem) : fOp :=
  fRd M 131 12 a4 (fun x9 => dn_X6_update_J118 a1 a2 a3 a4 a5 a6 x9 as0 M)
set_option maxRecDepth 100000 in
set_option maxHeartbeats 4000000 in
theorem wk_X6_update_J106 {l : Launch} {p : Program} {e : Env} {s : State} {m : MethodId} {args : Array Value} {below : List Frame} {meth : Method} {c : Code} {D : va_G} {aC : Nat → ClassId} {ad : Nat → Nat} (hC : fCx p s m args c vwCl D aC TB ad (fFr ad TB) goodTs cX6_update RX6 7) (hr : meth.sig.returnType = some .int) (hk : meth.locks = false) (a1 a2 a3 a4 a5 a6 as0 : Int)  (M : fMem) : GM l p e s m args below meth c D aC ad 7 6 160 0 106 [(0, .ref (ad 115)), (1, .int (fI a1)), (2, .int (fI a2)), (3, .int (fI a3)), (4, .int (fI a4)), (5, .int (fI a5)), (6, .int (fI a6))] [.int (fI as0), .ref (ad 131)] M (dn_X6_update_J106 a1 a2 a3 a4 a5 a6 as0 M) := by
  unfold dn_X6_update_J106
  refine g_aload_n hC 0 107 rfl dX6_update_106 rfl rfl ?_
  refine g_getA hC 110 inX6 rfl 15 (by decide) gw_542 rfl tb_MD rfl dX6_update_107 rfl ?_
  refine g_iload hC 4 112 rfl dX6_update_110 rfl ?_
  refine g_iald hC 113 tb_MD_16 (by decide) dX6_update_112 rfl (fun x9 => ?_)
  refine g_goto hC 118 dX6_update_113 rfl ?_
  exact wk_X6_update_J118 hC hr hk _ _ _ _ _ _ _ _ _
def dn_X6_update_J69  (a1 a2 a3 a4 as0 : Int) (M : fMem) : fOp :=
  fCl (dn_X6_selectedBy a2 as0 M) (fun v5 M6 => fCl (dn_X6_updated a2 a4 v5 M6) (fun v7 M8 => fEq v7 3 (dn_X6_update_J106 a1 a2 a3 a4 as0 v7 a4 M8) (fEq v7 (-7) (dn_X6_update_J106 a1 a2 a3 a4 as0 v7 a4 M8) (dn_X6_update_J118 a1 a2 a3 a4 as0 v7 as0 a4 M8))))
set_option maxRecDepth 100000 in
set_option maxHeartbeats 4000000 in
theorem wk_X6_update_J69 {l : Launch} {p : Program} {e : Env} {s : State} {m : MethodId} {args : Array Value} {below : List Frame} {meth : Method} {c : Code} {D : va_G} {aC : Nat → ClassId} {ad : Nat → Nat} (hC : fCx p s m args c vwCl D aC TB ad (fFr ad TB) goodTs cX6_update RX6 7) (hr : meth.sig.returnType = some .int) (hk : meth.locks = false) (a1 a2 a3 a4 as0 : Int)  (M : fMem) : GM l p e s m args below meth c D aC ad 7 6 160 0 69 [(0, .ref (ad 115)), (1, .int (fI a1)), (2, .int (fI a2)), (3, .int (fI a3)), (4, .int (fI a4))] [.int (fI as0)] M (dn_X6_update_J69 a1 a2 a3 a4 as0 M) := by
  unfold dn_X6_update_J69
  refine g_istore hC 71 [(5, .int (fI as0)), (0, .ref (ad 115)), (1, .int (fI a1)), (2, .int (fI a2)), (3, .int (fI a3)), (4, .int (fI a4))] dX6_update_69 (by decide) rfl rfl ?_
  refine g_aload_n hC 1 72 rfl dX6_update_71 rfl rfl ?_
  refine g_iload_n hC 3 73 rfl dX6_update_72 rfl rfl ?_
  refine g_iload hC 5 75 rfl dX6_update_73 rfl ?_
  refine g_aload_n hC 1 76 rfl dX6_update_75 rfl rfl ?_
  refine g_iload_n hC 3 77 rfl dX6_update_76 rfl rfl ?_
  refine g_iload hC 0 79 rfl dX6_update_77 rfl ?_
  refine g_cV hC 82 2 [.int (fI a2), .int (fI as0)] [.int (fI a4), .int (fI a2), .ref (ad 115)] (cn_X6_selectedBy l a2 as0 _) rfl rfl tb_MD rfl gw_638 gw_641 gw_65 gw_640 gw_38 (by decide +kernel) rfl ⟨Nat.le_of_ble_eq_true rfl, Nat.le_of_ble_eq_true rfl⟩ (Nat.le_of_ble_eq_true rfl) ⟨Nat.zero_le _, Nat.zero_le _⟩ dX6_update_79 rfl (fun v5 => .int (fI v5) :: [.int (fI a4), .int (fI a2), .ref (ad 115)]) (fun _ => rfl) (fun v5 M6 => ?_)
  refine g_cV hC 85 3 [.int (fI a2), .int (fI a4), .int (fI v5)] [] (cn_X6_updated l a2 a4 v5 _) rfl rfl tb_MD rfl gw_670 gw_673 gw_65 gw_672 gw_45 (by decide +kernel) rfl ⟨Nat.le_of_ble_eq_true rfl, Nat.le_of_ble_eq_true rfl⟩ (Nat.le_of_ble_eq_true rfl) ⟨Nat.zero_le _, Nat.zero_le _⟩ dX6_update_82 rfl (fun v7 => .int (fI v7) :: []) (fun _ => rfl) (fun v7 M8 => ?_)
  refine g_istore hC 87 [(6, .int (fI v7)), (5, .int (fI as0)), (0, .ref (ad 115)), (1, .int (fI a1)), (2, .int (fI a2)), (3, .int (fI a3)), (4, .int (fI a4))] dX6_update_85 (by decide) rfl rfl ?_
  refine g_aload_n hC 2 88 rfl dX6_update_87 rfl rfl ?_
  refine g_getA hC 91 inX6 rfl 15 (by decide) gw_542 rfl tb_MD rfl dX6_update_88 rfl ?_
  refine g_iload hC 6 93 rfl dX6_update_91 rfl ?_
  refine g_iload hC 0 95 rfl dX6_update_93 rfl ?_
  refine g_iconst hC 96 dX6_update_95 rfl ?_
  refine g_icmp_eq hC 106 99 dX6_update_96 rfl rfl ?_ ?_
  · refine g_lv [2, 3, 4, 5, 6, 1, 0] rfl ?_
    exact wk_X6_update_J106 hC hr hk _ _ _ _ _ _ _ _
  · refine g_iload hC 0 101 rfl dX6_update_99 rfl ?_
    refine g_bipush hC 103 dX6_update_101 rfl (by decide +kernel) ?_
    refine g_icmp_ne hC 116 106 dX6_update_103 rfl rfl ?_ ?_
    · refine g_iload hC 1 118 rfl dX6_update_116 rfl ?_
      refine g_lv [2, 3, 4, 5, 6, 1, 0] rfl ?_
      exact wk_X6_update_J118 hC hr hk _ _ _ _ _ _ _ _ _
    · refine g_lv [2, 3, 4, 5, 6, 1, 0] rfl ?_
      exact wk_X6_update_J106 hC hr hk _ _ _ _ _ _ _ _
def dn_X6_update_J37  (a1 a2 a3 : Int) (M : fMem) : fOp :=
  fEq a3 (-1) (fRd M 131 12 ((4 * a1) + a2) (fun x11 => dn_X6_update_J69 a1 a2 a3 ((4 * a1) + a2) x11 M)) (fEq a3 5 (dn_X6_update_J69 a1 a2 a3 ((4 * a1) + a2) (-1) M) (dn_X6_update_J69 a1 a2 a3 ((4 * a1) + a2) a3 M))
set_option maxRecDepth 100000 in
set_option maxHeartbeats 4000000 in
theorem wk_X6_update_J37 {l : Launch} {p : Program} {e : Env} {s : State} {m : MethodId} {args : Array Value} {below : List Frame} {meth : Method} {c : Code} {D : va_G} {aC : Nat → ClassId} {ad : Nat → Nat} (hC : fCx p s m args c vwCl D aC TB ad (fFr ad TB) goodTs cX6_update RX6 7) (hr : meth.sig.returnType = some .int) (hk : meth.locks = false) (a1 a2 a3 : Int)  (M : fMem) : GM l p e s m args below meth c D aC ad 7 6 160 0 37 [(0, .ref (ad 115)), (1, .int (fI a1)), (2, .int (fI a2)), (3, .int (fI a3))] [] M (dn_X6_update_J37 a1 a2 a3 M) := by
  unfold dn_X6_update_J37
  refine g_iconst hC 38 dX6_update_37 rfl ?_
  refine g_iload_n hC 1 39 rfl dX6_update_38 rfl rfl ?_
  refine g_imul hC 40 dX6_update_39 rfl ?_
  refine g_iload_n hC 2 41 rfl dX6_update_40 rfl rfl ?_
  refine g_iadd hC 42 dX6_update_41 rfl ?_
  refine g_istore hC 44 [(4, .int (fI ((4 * a1) + a2))), (0, .ref (ad 115)), (1, .int (fI a1)), (2, .int (fI a2)), (3, .int (fI a3))] dX6_update_42 (by decide) rfl rfl ?_
  refine g_iload_n hC 4 45 rfl dX6_update_44 rfl rfl ?_
  refine g_iconst hC 46 dX6_update_45 rfl ?_
  refine g_icmp_ne hC 59 49 dX6_update_46 rfl rfl ?_ ?_
  · refine g_iload_n hC 4 60 rfl dX6_update_59 rfl rfl ?_
    refine g_iconst hC 61 dX6_update_60 rfl ?_
    refine g_icmp_ne hC 68 64 dX6_update_61 rfl rfl ?_ ?_
    · refine g_iload_n hC 4 69 rfl dX6_update_68 rfl rfl ?_
      refine g_lv [1, 2, 3, 4, 0] rfl ?_
      exact wk_X6_update_J69 hC hr hk _ _ _ _ _ _
    · refine g_iconst hC 65 dX6_update_64 rfl ?_
      refine g_goto hC 69 dX6_update_65 rfl ?_
      refine g_lv [1, 2, 3, 4, 0] rfl ?_
      exact wk_X6_update_J69 hC hr hk _ _ _ _ _ _
  · refine g_aload_n hC 1 50 rfl dX6_update_49 rfl rfl ?_
    refine g_getA hC 53 inX6 rfl 15 (by decide) gw_542 rfl tb_MD rfl dX6_update_50 rfl ?_
    refine g_iload hC 0 55 rfl dX6_update_53 rfl ?_
    refine g_iald hC 56 tb_MD_16 (by decide) dX6_update_55 rfl (fun x11 => ?_)
    refine g_goto hC 69 dX6_update_56 rfl ?_
    refine g_lv [1, 2, 3, 4, 0] rfl ?_
    exact wk_X6_update_J69 hC hr hk _ _ _ _ _ _
def dn_X6_update (a1 : Int) (a2 : Int) (a3 : Int) (M : fMem) : fOp :=
  fCl (dn_X6_noPair a1 a2 M) (fun v1 M2 => fEq v1 0 (fLt a3 (-1) (some ((-1), M2)) (fLt 5 a3 (some ((-1), M2)) (fCl (dn_X6_below a3 5 M2) (fun v3 M4 => fEq v3 0 (dn_X6_update_J37 a1 a2 a3 M4) (fRd M4 126 5 a3 (fun x12 => fEq x12 0 (some ((-1), M4)) (dn_X6_update_J37 a1 a2 a3 M4))))))) (some ((-1), M2)))
set_option maxRecDepth 100000 in
set_option maxHeartbeats 4000000 in
theorem wk_X6_update {l : Launch} {p : Program} {e : Env} {s : State} {m : MethodId} {args : Array Value} {below : List Frame} {meth : Method} {c : Code} {D : va_G} {aC : Nat → ClassId} {ad : Nat → Nat} (hC : fCx p s m args c vwCl D aC TB ad (fFr ad TB) goodTs cX6_update RX6 7) (hr : meth.sig.returnType = some .int) (hk : meth.locks = false) (a1 : Int) (a2 : Int) (a3 : Int) (M : fMem) : GM l p e s m args below meth c D aC ad 7 6 160 0 0 [(0, .ref (ad 115)), (1, .int (fI a1)), (2, .int (fI a2)), (3, .int (fI a3))] [] M (dn_X6_update a1 a2 a3 M) := by
  unfold dn_X6_update
  refine g_iload_n hC 1 1 rfl dX6_update_0 rfl rfl ?_
  refine g_iload_n hC 2 2 rfl dX6_update_1 rfl rfl ?_
  refine g_cS hC 5 2 [.int (fI a1), .int (fI a2)] [] (cn_X6_noPair l a1 a2 _) rfl rfl gw_598 gw_600 gw_65 gw_599 (by decide +kernel) rfl ⟨Nat.le_of_ble_eq_true rfl, Nat.le_of_ble_eq_true rfl⟩ (Nat.le_of_ble_eq_true rfl) ⟨Nat.zero_le _, Nat.zero_le _⟩ dX6_update_2 rfl (fun v1 => .int (fI v1) :: []) (fun _ => rfl) (fun v1 M2 => ?_)
  refine g_if_ne hC 35 8 dX6_update_5 rfl rfl ?_ ?_
  · refine g_iconst hC 36 dX6_update_35 rfl ?_
    exact g_ireturn hC hr hk dX6_update_36
  · refine g_iload_n hC 3 9 rfl dX6_update_8 rfl rfl ?_
    refine g_iconst hC 10 dX6_update_9 rfl ?_
    refine g_icmp_lt hC 35 13 dX6_update_10 rfl rfl ?_ ?_
    · refine g_iconst hC 36 dX6_update_35 rfl ?_
      exact g_ireturn hC hr hk dX6_update_36
    · refine g_iload_n hC 3 14 rfl dX6_update_13 rfl rfl ?_
      refine g_iconst hC 15 dX6_update_14 rfl ?_
      refine g_icmp_gt hC 35 18 dX6_update_15 rfl rfl ?_ ?_
      · refine g_iconst hC 36 dX6_update_35 rfl ?_
        exact g_ireturn hC hr hk dX6_update_36
      · refine g_iload_n hC 3 19 rfl dX6_update_18 rfl rfl ?_
        refine g_iconst hC 20 dX6_update_19 rfl ?_
        refine g_cS hC 23 2 [.int (fI a3), .int (fI 5)] [] (cn_X6_below l a3 5 _) rfl rfl gw_601 gw_603 gw_65 gw_602 (by decide +kernel) rfl ⟨Nat.le_of_ble_eq_true rfl, Nat.le_of_ble_eq_true rfl⟩ (Nat.le_of_ble_eq_true rfl) ⟨Nat.zero_le _, Nat.zero_le _⟩ dX6_update_20 rfl (fun v3 => .int (fI v3) :: []) (fun _ => rfl) (fun v3 M4 => ?_)
        refine g_if_eq hC 37 26 dX6_update_23 rfl rfl ?_ ?_
        · exact wk_X6_update_J37 hC hr hk _ _ _ _
        · refine g_aload_n hC 0 27 rfl dX6_update_26 rfl rfl ?_
          refine g_getA hC 30 inX6 rfl 10 (by decide) gw_537 rfl tb_MD rfl dX6_update_27 rfl ?_
          refine g_iload_n hC 3 31 rfl dX6_update_30 rfl rfl ?_
          refine g_iald hC 32 tb_MD_11 (by decide) dX6_update_31 rfl (fun x12 => ?_)
          refine g_if_ne hC 37 35 dX6_update_32 rfl rfl ?_ ?_
          · exact wk_X6_update_J37 hC hr hk _ _ _ _
          · refine g_iconst hC 36 dX6_update_35 rfl ?_
            exact g_ireturn hC hr hk dX6_update_36
theorem cn_X6_update (l : Launch) (a1 : Int) (a2 : Int) (a3 : Int) (M : fMem) : fMt l vwCl TB yX6_update cX6_update 7 (some .int) 6 160 0 (fun ad => [.ref (ad 115), .int (fI a1), .int (fI a2), .int (fI a3)]) M (dn_X6_update a1 a2 a3 M) :=
  fMt.of (by decide +kernel) (fun _ => Nat.le_of_ble_eq_true rfl) (fun p e s m args below meth c D aC ad hC hr hk => wk_X6_update hC hr hk a1 a2 a3 M)
def dn_X6_tag_J159  (a1 a2 a3 a4 a5 a6 a7 as0 as1 : Int) (M : fMem) : fOp :=
  fWr M 127 20 as1 as0 (fun M10 => fRz 1 M10)
set_option maxRecDepth 100000 in
set_option maxHeartbeats 4000000 in
theorem wk_X6_tag_J159 {l : Launch} {p : Program} {e : Env} {s : State} {m : MethodId} {args : Array Value} {below : List Frame} {meth : Method} {c : Code} {D : va_G} {aC : Nat → ClassId} {ad : Nat → Nat} (hC : fCx p s m args c vwCl D aC TB ad (fFr ad TB) goodTs cX6_tag RX6 8) (hr : meth.sig.returnType = some .boolean) (hk : meth.locks = false) (a1 a2 a3 a4 a5 a6 a7 as0 as1 : Int)  (M : fMem) : GM l p e s m args below meth c D aC ad 8 2 42 0 159 [(0, .ref (ad 115)), (1, .int (fI a1)), (2, .int (fI a2)), (3, .int (fI a3)), (4, .int (fI a4)), (5, .int (fI a5)), (6, .int (fI a6)), (7, .int (fI a7))] [.int (fI as0), .int (fI as1), .ref (ad 127)] M (dn_X6_tag_J159 a1 a2 a3 a4 a5 a6 a7 as0 as1 M) := by
  unfold dn_X6_tag_J159
  refine g_iast hC 160 tb_MD_12 (by decide) dX6_tag_159 rfl (fun M10 => ?_)
  refine g_iconst hC 161 dX6_tag_160 rfl ?_
  exact g_zreturn hC hr hk dX6_tag_161
def dn_X6_tag_J106  (a1 a2 a3 a4 a5 a6 : Int) (M : fMem) : fOp :=
  fRd M 128 12 ((4 * a1) + a2) (fun x8 => fWr M 126 5 a3 a5 (fun M9 => fEq a4 0 (dn_X6_tag_J159 a1 a2 a3 a4 a5 a6 x8 x8 ((5 * a2) + a3) M9) (fCl (dn_X6_freeMagic a2 x8 M9) (fun v11 M12 => fCl (dn_X6_branchAt a2 x8 v11 M12) (fun v13 M14 => dn_X6_tag_J159 a1 a2 a3 a4 a5 a6 x8 v13 ((5 * a2) + a3) M14)))))
set_option maxRecDepth 100000 in
set_option maxHeartbeats 4000000 in
theorem wk_X6_tag_J106 {l : Launch} {p : Program} {e : Env} {s : State} {m : MethodId} {args : Array Value} {below : List Frame} {meth : Method} {c : Code} {D : va_G} {aC : Nat → ClassId} {ad : Nat → Nat} (hC : fCx p s m args c vwCl D aC TB ad (fFr ad TB) goodTs cX6_tag RX6 8) (hr : meth.sig.returnType = some .boolean) (hk : meth.locks = false) (a1 a2 a3 a4 a5 a6 : Int)  (M : fMem) : GM l p e s m args below meth c D aC ad 8 2 42 0 106 [(0, .ref (ad 115)), (1, .int (fI a1)), (2, .int (fI a2)), (3, .int (fI a3)), (4, .int (fI a4)), (5, .int (fI a5)), (6, .int (fI a6))] [] M (dn_X6_tag_J106 a1 a2 a3 a4 a5 a6 M) := by
  unfold dn_X6_tag_J106
  refine g_aload_n hC 0 107 rfl dX6_tag_106 rfl rfl ?_
  refine g_getA hC 110 inX6 rfl 12 (by decide) gw_539 rfl tb_MD rfl dX6_tag_107 rfl ?_
  refine g_iconst hC 111 dX6_tag_110 rfl ?_
  refine g_iload_n hC 1 112 rfl dX6_tag_111 rfl rfl ?_
  refine g_imul hC 113 dX6_tag_112 rfl ?_
  refine g_iload_n hC 2 114 rfl dX6_tag_113 rfl rfl ?_
  refine g_iadd hC 115 dX6_tag_114 rfl ?_
  refine g_iald hC 116 tb_MD_13 (by decide) dX6_tag_115 rfl (fun x8 => ?_)
  refine g_istore hC 118 [(7, .int (fI x8)), (0, .ref (ad 115)), (1, .int (fI a1)), (2, .int (fI a2)), (3, .int (fI a3)), (4, .int (fI a4)), (5, .int (fI a5)), (6, .int (fI a6))] dX6_tag_116 (by decide) rfl rfl ?_
  refine g_aload_n hC 1 119 rfl dX6_tag_118 rfl rfl ?_
  refine g_getA hC 122 inX6 rfl 10 (by decide) gw_537 rfl tb_MD rfl dX6_tag_119 rfl ?_
  refine g_iload_n hC 4 123 rfl dX6_tag_122 rfl rfl ?_
  refine g_iload hC 6 125 rfl dX6_tag_123 rfl ?_
  refine g_iast hC 126 tb_MD_11 (by decide) dX6_tag_125 rfl (fun M9 => ?_)
  refine g_aload_n hC 1 127 rfl dX6_tag_126 rfl rfl ?_
  refine g_getA hC 130 inX6 rfl 11 (by decide) gw_538 rfl tb_MD rfl dX6_tag_127 rfl ?_
  refine g_iconst hC 131 dX6_tag_130 rfl ?_
  refine g_iload_n hC 3 132 rfl dX6_tag_131 rfl rfl ?_
  refine g_imul hC 133 dX6_tag_132 rfl ?_
  refine g_iload_n hC 4 134 rfl dX6_tag_133 rfl rfl ?_
  refine g_iadd hC 135 dX6_tag_134 rfl ?_
  refine g_iload hC 5 137 rfl dX6_tag_135 rfl ?_
  refine g_if_eq hC 157 140 dX6_tag_137 rfl rfl ?_ ?_
  · refine g_iload hC 0 159 rfl dX6_tag_157 rfl ?_
    refine g_lv [1, 2, 3, 4, 5, 6, 7, 0] rfl ?_
    exact wk_X6_tag_J159 hC hr hk _ _ _ _ _ _ _ _ _ _
  · refine g_aload_n hC 1 141 rfl dX6_tag_140 rfl rfl ?_
    refine g_iload_n hC 3 142 rfl dX6_tag_141 rfl rfl ?_
    refine g_iload hC 0 144 rfl dX6_tag_142 rfl ?_
    refine g_aload_n hC 1 145 rfl dX6_tag_144 rfl rfl ?_
    refine g_iload_n hC 3 146 rfl dX6_tag_145 rfl rfl ?_
    refine g_iload hC 0 148 rfl dX6_tag_146 rfl ?_
    refine g_cV hC 151 2 [.int (fI a2), .int (fI x8)] [.int (fI x8), .int (fI a2), .ref (ad 115), .int (fI ((5 * a2) + a3)), .ref (ad 127)] (cn_X6_freeMagic l a2 x8 _) rfl rfl tb_MD rfl gw_658 gw_661 gw_65 gw_660 gw_43 (by decide +kernel) rfl ⟨Nat.le_of_ble_eq_true rfl, Nat.le_of_ble_eq_true rfl⟩ (Nat.le_of_ble_eq_true rfl) ⟨Nat.zero_le _, Nat.zero_le _⟩ dX6_tag_148 rfl (fun v11 => .int (fI v11) :: [.int (fI x8), .int (fI a2), .ref (ad 115), .int (fI ((5 * a2) + a3)), .ref (ad 127)]) (fun _ => rfl) (fun v11 M12 => ?_)
    refine g_cV hC 154 3 [.int (fI a2), .int (fI x8), .int (fI v11)] [.int (fI ((5 * a2) + a3)), .ref (ad 127)] (cn_X6_branchAt l a2 x8 v11 _) rfl rfl tb_MD rfl gw_662 gw_665 gw_65 gw_664 gw_44 (by decide +kernel) rfl ⟨Nat.le_of_ble_eq_true rfl, Nat.le_of_ble_eq_true rfl⟩ (Nat.le_of_ble_eq_true rfl) ⟨Nat.zero_le _, Nat.zero_le _⟩ dX6_tag_151 rfl (fun v13 => .int (fI v13) :: [.int (fI ((5 * a2) + a3)), .ref (ad 127)]) (fun _ => rfl) (fun v13 M14 => ?_)
    refine g_goto hC 159 dX6_tag_154 rfl ?_
    refine g_lv [1, 2, 3, 4, 5, 6, 7, 0] rfl ?_
    exact wk_X6_tag_J159 hC hr hk _ _ _ _ _ _ _ _ _ _
def dn_X6_tag_J84  (a1 a2 a3 a4 a5 a6 : Int) (M : fMem) : fOp :=
  fEq a4 0 (dn_X6_tag_J106 a1 a2 a3 a4 a5 a6 M) (fEq a6 0 (fRd M 121 4 a2 (fun x15 => fEq x15 5 (fRz 0 M) (dn_X6_tag_J106 a1 a2 a3 a4 a5 a6 M))) (fRz 0 M))
set_option maxRecDepth 100000 in
set_option maxHeartbeats 4000000 in
theorem wk_X6_tag_J84 {l : Launch} {p : Program} {e : Env} {s : State} {m : MethodId} {args : Array Value} {below : List Frame} {meth : Method} {c : Code} {D : va_G} {aC : Nat → ClassId} {ad : Nat → Nat} (hC : fCx p s m args c vwCl D aC TB ad (fFr ad TB) goodTs cX6_tag RX6 8) (hr : meth.sig.returnType = some .boolean) (hk : meth.locks = false) (a1 a2 a3 a4 a5 a6 : Int)  (M : fMem) : GM l p e s m args below meth c D aC ad 8 2 42 0 84 [(0, .ref (ad 115)), (1, .int (fI a1)), (2, .int (fI a2)), (3, .int (fI a3)), (4, .int (fI a4)), (5, .int (fI a5)), (6, .int (fI a6))] [] M (dn_X6_tag_J84 a1 a2 a3 a4 a5 a6 M) := by
  unfold dn_X6_tag_J84
  refine g_iload hC 4 86 rfl dX6_tag_84 rfl ?_
  refine g_if_eq hC 106 89 dX6_tag_86 rfl rfl ?_ ?_
  · exact wk_X6_tag_J106 hC hr hk _ _ _ _ _ _ _
  · refine g_iload hC 6 91 rfl dX6_tag_89 rfl ?_
    refine g_if_ne hC 104 94 dX6_tag_91 rfl rfl ?_ ?_
    · refine g_iconst hC 105 dX6_tag_104 rfl ?_
      exact g_zreturn hC hr hk dX6_tag_105
    · refine g_aload_n hC 0 95 rfl dX6_tag_94 rfl rfl ?_
      refine g_getA hC 98 inX6 rfl 5 (by decide) gw_532 rfl tb_MD rfl dX6_tag_95 rfl ?_
      refine g_iload_n hC 2 99 rfl dX6_tag_98 rfl rfl ?_
      refine g_iald hC 100 tb_MD_6 (by decide) dX6_tag_99 rfl (fun x15 => ?_)
      refine g_iconst hC 101 dX6_tag_100 rfl ?_
      refine g_icmp_ne hC 106 104 dX6_tag_101 rfl rfl ?_ ?_
      · exact wk_X6_tag_J106 hC hr hk _ _ _ _ _ _ _
      · refine g_iconst hC 105 dX6_tag_104 rfl ?_
        exact g_zreturn hC hr hk dX6_tag_105
def dn_X6_tag_J62  (a1 a2 a3 a4 a5 as0 : Int) (M : fMem) : fOp :=
  fRd M 126 5 a3 (fun x7 => fEq x7 0 (dn_X6_tag_J84 a1 a2 a3 a4 a5 as0 M) (fRd M 126 5 a3 (fun x16 => fEq x16 a5 (dn_X6_tag_J84 a1 a2 a3 a4 a5 as0 M) (fRz 0 M))))
set_option maxRecDepth 100000 in
set_option maxHeartbeats 4000000 in
theorem wk_X6_tag_J62 {l : Launch} {p : Program} {e : Env} {s : State} {m : MethodId} {args : Array Value} {below : List Frame} {meth : Method} {c : Code} {D : va_G} {aC : Nat → ClassId} {ad : Nat → Nat} (hC : fCx p s m args c vwCl D aC TB ad (fFr ad TB) goodTs cX6_tag RX6 8) (hr : meth.sig.returnType = some .boolean) (hk : meth.locks = false) (a1 a2 a3 a4 a5 as0 : Int)  (M : fMem) : GM l p e s m args below meth c D aC ad 8 2 42 0 62 [(0, .ref (ad 115)), (1, .int (fI a1)), (2, .int (fI a2)), (3, .int (fI a3)), (4, .int (fI a4)), (5, .int (fI a5))] [.int (fI as0)] M (dn_X6_tag_J62 a1 a2 a3 a4 a5 as0 M) := by
  unfold dn_X6_tag_J62
  refine g_istore hC 64 [(6, .int (fI as0)), (0, .ref (ad 115)), (1, .int (fI a1)), (2, .int (fI a2)), (3, .int (fI a3)), (4, .int (fI a4)), (5, .int (fI a5))] dX6_tag_62 (by decide) rfl rfl ?_
  refine g_aload_n hC 1 65 rfl dX6_tag_64 rfl rfl ?_
  refine g_getA hC 68 inX6 rfl 10 (by decide) gw_537 rfl tb_MD rfl dX6_tag_65 rfl ?_
  refine g_iload_n hC 4 69 rfl dX6_tag_68 rfl rfl ?_
  refine g_iald hC 70 tb_MD_11 (by decide) dX6_tag_69 rfl (fun x7 => ?_)
  refine g_if_eq hC 84 73 dX6_tag_70 rfl rfl ?_ ?_
  · refine g_lv [1, 2, 3, 4, 5, 6, 0] rfl ?_
    exact wk_X6_tag_J84 hC hr hk _ _ _ _ _ _ _
  · refine g_aload_n hC 1 74 rfl dX6_tag_73 rfl rfl ?_
    refine g_getA hC 77 inX6 rfl 10 (by decide) gw_537 rfl tb_MD rfl dX6_tag_74 rfl ?_
    refine g_iload_n hC 4 78 rfl dX6_tag_77 rfl rfl ?_
    refine g_iald hC 79 tb_MD_11 (by decide) dX6_tag_78 rfl (fun x16 => ?_)
    refine g_iload hC 6 81 rfl dX6_tag_79 rfl ?_
    refine g_icmp_ne hC 104 84 dX6_tag_81 rfl rfl ?_ ?_
    · refine g_iconst hC 105 dX6_tag_104 rfl ?_
      exact g_zreturn hC hr hk dX6_tag_105
    · refine g_lv [1, 2, 3, 4, 5, 6, 0] rfl ?_
      exact wk_X6_tag_J84 hC hr hk _ _ _ _ _ _ _
def dn_X6_tag_J41  (a1 a2 a3 a4 as0 : Int) (M : fMem) : fOp :=
  fRd M 127 20 ((5 * a2) + a3) (fun x6 => fEq x6 (-1) (dn_X6_tag_J62 a1 a2 a3 a4 as0 0 M) (dn_X6_tag_J62 a1 a2 a3 a4 as0 1 M))
set_option maxRecDepth 100000 in
set_option maxHeartbeats 4000000 in
theorem wk_X6_tag_J41 {l : Launch} {p : Program} {e : Env} {s : State} {m : MethodId} {args : Array Value} {below : List Frame} {meth : Method} {c : Code} {D : va_G} {aC : Nat → ClassId} {ad : Nat → Nat} (hC : fCx p s m args c vwCl D aC TB ad (fFr ad TB) goodTs cX6_tag RX6 8) (hr : meth.sig.returnType = some .boolean) (hk : meth.locks = false) (a1 a2 a3 a4 as0 : Int)  (M : fMem) : GM l p e s m args below meth c D aC ad 8 2 42 0 41 [(0, .ref (ad 115)), (1, .int (fI a1)), (2, .int (fI a2)), (3, .int (fI a3)), (4, .int (fI a4))] [.int (fI as0)] M (dn_X6_tag_J41 a1 a2 a3 a4 as0 M) := by
  unfold dn_X6_tag_J41
  refine g_istore hC 43 [(5, .int (fI as0)), (0, .ref (ad 115)), (1, .int (fI a1)), (2, .int (fI a2)), (3, .int (fI a3)), (4, .int (fI a4))] dX6_tag_41 (by decide) rfl rfl ?_
  refine g_aload_n hC 1 44 rfl dX6_tag_43 rfl rfl ?_
  refine g_getA hC 47 inX6 rfl 11 (by decide) gw_538 rfl tb_MD rfl dX6_tag_44 rfl ?_
  refine g_iconst hC 48 dX6_tag_47 rfl ?_
  refine g_iload_n hC 3 49 rfl dX6_tag_48 rfl rfl ?_
  refine g_imul hC 50 dX6_tag_49 rfl ?_
  refine g_iload_n hC 4 51 rfl dX6_tag_50 rfl rfl ?_
  refine g_iadd hC 52 dX6_tag_51 rfl ?_
  refine g_iald hC 53 tb_MD_12 (by decide) dX6_tag_52 rfl (fun x6 => ?_)
  refine g_iconst hC 54 dX6_tag_53 rfl ?_
  refine g_icmp_eq hC 61 57 dX6_tag_54 rfl rfl ?_ ?_
  · refine g_iconst hC 62 dX6_tag_61 rfl ?_
    refine g_lv [1, 2, 3, 4, 5, 0] rfl ?_
    exact wk_X6_tag_J62 hC hr hk _ _ _ _ _ _ _
  · refine g_iconst hC 58 dX6_tag_57 rfl ?_
    refine g_goto hC 62 dX6_tag_58 rfl ?_
    refine g_lv [1, 2, 3, 4, 5, 0] rfl ?_
    exact wk_X6_tag_J62 hC hr hk _ _ _ _ _ _ _
def dn_X6_tag (a1 : Int) (a2 : Int) (a3 : Int) (a4 : Int) (M : fMem) : fOp :=
  fCl (dn_X6_noPair a1 a2 M) (fun v1 M2 => fEq v1 0 (fCl (dn_X6_below a3 5 M2) (fun v3 M4 => fEq v3 0 (fRz 0 M4) (fRd M4 128 12 ((4 * a1) + a2) (fun x5 => fLe 0 x5 (fEq a4 0 (dn_X6_tag_J41 a1 a2 a3 a4 1 M4) (dn_X6_tag_J41 a1 a2 a3 a4 2 M4)) (fRz 0 M4))))) (fRz 0 M2))
set_option maxRecDepth 100000 in
set_option maxHeartbeats 4000000 in
theorem wk_X6_tag {l : Launch} {p : Program} {e : Env} {s : State} {m : MethodId} {args : Array Value} {below : List Frame} {meth : Method} {c : Code} {D : va_G} {aC : Nat → ClassId} {ad : Nat → Nat} (hC : fCx p s m args c vwCl D aC TB ad (fFr ad TB) goodTs cX6_tag RX6 8) (hr : meth.sig.returnType = some .boolean) (hk : meth.locks = false) (a1 : Int) (a2 : Int) (a3 : Int) (a4 : Int) (M : fMem) : GM l p e s m args below meth c D aC ad 8 2 42 0 0 [(0, .ref (ad 115)), (1, .int (fI a1)), (2, .int (fI a2)), (3, .int (fI a3)), (4, .int (fI a4))] [] M (dn_X6_tag a1 a2 a3 a4 M) := by
  unfold dn_X6_tag
  refine g_iload_n hC 1 1 rfl dX6_tag_0 rfl rfl ?_
  refine g_iload_n hC 2 2 rfl dX6_tag_1 rfl rfl ?_
  refine g_cS hC 5 2 [.int (fI a1), .int (fI a2)] [] (cn_X6_noPair l a1 a2 _) rfl rfl gw_598 gw_600 gw_65 gw_599 (by decide +kernel) rfl ⟨Nat.le_of_ble_eq_true rfl, Nat.le_of_ble_eq_true rfl⟩ (Nat.le_of_ble_eq_true rfl) ⟨Nat.zero_le _, Nat.zero_le _⟩ dX6_tag_2 rfl (fun v1 => .int (fI v1) :: []) (fun _ => rfl) (fun v1 M2 => ?_)
  refine g_if_ne hC 29 8 dX6_tag_5 rfl rfl ?_ ?_
  · refine g_iconst hC 30 dX6_tag_29 rfl ?_
    exact g_zreturn hC hr hk dX6_tag_30
  · refine g_iload_n hC 3 9 rfl dX6_tag_8 rfl rfl ?_
    refine g_iconst hC 10 dX6_tag_9 rfl ?_
    refine g_cS hC 13 2 [.int (fI a3), .int (fI 5)] [] (cn_X6_below l a3 5 _) rfl rfl gw_601 gw_603 gw_65 gw_602 (by decide +kernel) rfl ⟨Nat.le_of_ble_eq_true rfl, Nat.le_of_ble_eq_true rfl⟩ (Nat.le_of_ble_eq_true rfl) ⟨Nat.zero_le _, Nat.zero_le _⟩ dX6_tag_10 rfl (fun v3 => .int (fI v3) :: []) (fun _ => rfl) (fun v3 M4 => ?_)
    refine g_if_eq hC 29 16 dX6_tag_13 rfl rfl ?_ ?_
    · refine g_iconst hC 30 dX6_tag_29 rfl ?_
      exact g_zreturn hC hr hk dX6_tag_30
    · refine g_aload_n hC 0 17 rfl dX6_tag_16 rfl rfl ?_
      refine g_getA hC 20 inX6 rfl 12 (by decide) gw_539 rfl tb_MD rfl dX6_tag_17 rfl ?_
      refine g_iconst hC 21 dX6_tag_20 rfl ?_
      refine g_iload_n hC 1 22 rfl dX6_tag_21 rfl rfl ?_
      refine g_imul hC 23 dX6_tag_22 rfl ?_
      refine g_iload_n hC 2 24 rfl dX6_tag_23 rfl rfl ?_
      refine g_iadd hC 25 dX6_tag_24 rfl ?_
      refine g_iald hC 26 tb_MD_13 (by decide) dX6_tag_25 rfl (fun x5 => ?_)
      refine g_if_ge hC 31 29 dX6_tag_26 rfl rfl ?_ ?_
      · refine g_iload hC 4 33 rfl dX6_tag_31 rfl ?_
        refine g_if_eq hC 40 36 dX6_tag_33 rfl rfl ?_ ?_
        · refine g_iconst hC 41 dX6_tag_40 rfl ?_
          exact wk_X6_tag_J41 hC hr hk _ _ _ _ _ _
        · refine g_iconst hC 37 dX6_tag_36 rfl ?_
          refine g_goto hC 41 dX6_tag_37 rfl ?_
          exact wk_X6_tag_J41 hC hr hk _ _ _ _ _ _
      · refine g_iconst hC 30 dX6_tag_29 rfl ?_
        exact g_zreturn hC hr hk dX6_tag_30
theorem cn_X6_tag (l : Launch) (a1 : Int) (a2 : Int) (a3 : Int) (a4 : Int) (M : fMem) : fMt l vwCl TB yX6_tag cX6_tag 8 (some .boolean) 2 42 0 (fun ad => [.ref (ad 115), .int (fI a1), .int (fI a2), .int (fI a3), .int (fI a4)]) M (dn_X6_tag a1 a2 a3 a4 M) :=
  fMt.of (by decide +kernel) (fun _ => Nat.le_of_ble_eq_true rfl) (fun p e s m args below meth c D aC ad hC hr hk => wk_X6_tag hC hr hk a1 a2 a3 a4 M)
def dn_X6_firstOfTrunk_L2B  (a1 : Int) (r : Int → fMem → fOp) (a2 : Int) (M : fMem) : fOp :=
  fRd M 116 4 a1 (fun x1 => fLe x1 a2 (some ((-1), M)) (fRd M 119 96 ((24 * a1) + a2) (fun x2 => fEq x2 0 (some (a2, M)) (r (a2 + 1) M))))
def dn_X6_firstOfTrunk_L2  (a1 : Int) : Nat → Int → fMem → fOp
  | 0, _, _ => none
  | n + 1, a2, M => dn_X6_firstOfTrunk_L2B a1 (fun a2 M => dn_X6_firstOfTrunk_L2 a1 n a2 M) a2 M
set_option maxRecDepth 100000 in
set_option maxHeartbeats 4000000 in
theorem wk_X6_firstOfTrunk_L2B {l : Launch} {p : Program} {e : Env} {s : State} {m : MethodId} {args : Array Value} {below : List Frame} {meth : Method} {c : Code} {D : va_G} {aC : Nat → ClassId} {ad : Nat → Nat} (hC : fCx p s m args c vwCl D aC TB ad (fFr ad TB) goodTs cX6_firstOfTrunk RX6 3) (hr : meth.sig.returnType = some .int) (hk : meth.locks = false) (a1 : Int) (r : Int → fMem → fOp) (hrc : ∀ (a2 : Int) (M : fMem), GM l p e s m args below meth c D aC ad 3 0 0 0 2 [(0, .ref (ad 115)), (1, .int (fI a1)), (2, .int (fI a2))] [] M (r a2 M)) (a2 : Int) (M : fMem) : GM l p e s m args below meth c D aC ad 3 0 0 0 2 [(0, .ref (ad 115)), (1, .int (fI a1)), (2, .int (fI a2))] [] M (dn_X6_firstOfTrunk_L2B a1 r a2 M) := by
  unfold dn_X6_firstOfTrunk_L2B
  refine g_iload_n hC 2 3 rfl dX6_firstOfTrunk_2 rfl rfl ?_
  refine g_aload_n hC 0 4 rfl dX6_firstOfTrunk_3 rfl rfl ?_
  refine g_getA hC 7 inX6 rfl 0 (by decide) gw_527 rfl tb_MD rfl dX6_firstOfTrunk_4 rfl ?_
  refine g_iload_n hC 1 8 rfl dX6_firstOfTrunk_7 rfl rfl ?_
  refine g_iald hC 9 tb_MD_1 (by decide) dX6_firstOfTrunk_8 rfl (fun x1 => ?_)
  refine g_icmp_ge hC 34 12 dX6_firstOfTrunk_9 rfl rfl ?_ ?_
  · refine g_iconst hC 35 dX6_firstOfTrunk_34 rfl ?_
    exact g_ireturn hC hr hk dX6_firstOfTrunk_35
  · refine g_aload_n hC 0 13 rfl dX6_firstOfTrunk_12 rfl rfl ?_
    refine g_getA hC 16 inX6 rfl 3 (by decide) gw_530 rfl tb_MD rfl dX6_firstOfTrunk_13 rfl ?_
    refine g_bipush hC 18 dX6_firstOfTrunk_16 rfl (by decide +kernel) ?_
    refine g_iload_n hC 1 19 rfl dX6_firstOfTrunk_18 rfl rfl ?_
    refine g_imul hC 20 dX6_firstOfTrunk_19 rfl ?_
    refine g_iload_n hC 2 21 rfl dX6_firstOfTrunk_20 rfl rfl ?_
    refine g_iadd hC 22 dX6_firstOfTrunk_21 rfl ?_
    refine g_iald hC 23 tb_MD_4 (by decide) dX6_firstOfTrunk_22 rfl (fun x2 => ?_)
    refine g_if_ne hC 28 26 dX6_firstOfTrunk_23 rfl rfl ?_ ?_
    · refine g_iinc hC 2 31 [(2, .int (fI (a2 + 1))), (0, .ref (ad 115)), (1, .int (fI a1))] rfl dX6_firstOfTrunk_28 (by decide) rfl rfl ?_
      refine g_goto hC 2 dX6_firstOfTrunk_31 rfl ?_
      refine g_lv [1, 2, 0] rfl ?_
      exact hrc _ _
    · refine g_iload_n hC 2 27 rfl dX6_firstOfTrunk_26 rfl rfl ?_
      exact g_ireturn hC hr hk dX6_firstOfTrunk_27
set_option maxRecDepth 100000 in
set_option maxHeartbeats 4000000 in
theorem wk_X6_firstOfTrunk_L2 {l : Launch} {p : Program} {e : Env} {s : State} {m : MethodId} {args : Array Value} {below : List Frame} {meth : Method} {c : Code} {D : va_G} {aC : Nat → ClassId} {ad : Nat → Nat} (hC : fCx p s m args c vwCl D aC TB ad (fFr ad TB) goodTs cX6_firstOfTrunk RX6 3) (hr : meth.sig.returnType = some .int) (hk : meth.locks = false) (a1 : Int) (n : Nat) : ∀ (a2 : Int) (M : fMem), GM l p e s m args below meth c D aC ad 3 0 0 0 2 [(0, .ref (ad 115)), (1, .int (fI a1)), (2, .int (fI a2))] [] M (dn_X6_firstOfTrunk_L2 a1 n a2 M) := by
  induction n with
  | zero => intro a2 M; exact g_none
  | succ n ih => intro a2 M; exact wk_X6_firstOfTrunk_L2B hC hr hk a1 (fun a2 M => dn_X6_firstOfTrunk_L2 a1 n a2 M) ih a2 M
def dn_X6_firstOfTrunk (a1 : Int) (M : fMem) : fOp :=
  dn_X6_firstOfTrunk_L2 a1 600 0 M
set_option maxRecDepth 100000 in
set_option maxHeartbeats 4000000 in
theorem wk_X6_firstOfTrunk {l : Launch} {p : Program} {e : Env} {s : State} {m : MethodId} {args : Array Value} {below : List Frame} {meth : Method} {c : Code} {D : va_G} {aC : Nat → ClassId} {ad : Nat → Nat} (hC : fCx p s m args c vwCl D aC TB ad (fFr ad TB) goodTs cX6_firstOfTrunk RX6 3) (hr : meth.sig.returnType = some .int) (hk : meth.locks = false) (a1 : Int) (M : fMem) : GM l p e s m args below meth c D aC ad 3 0 0 0 0 [(0, .ref (ad 115)), (1, .int (fI a1))] [] M (dn_X6_firstOfTrunk a1 M) := by
  unfold dn_X6_firstOfTrunk
  refine g_iconst hC 1 dX6_firstOfTrunk_0 rfl ?_
  refine g_istore_n hC 2 [(2, .int (fI 0)), (0, .ref (ad 115)), (1, .int (fI a1))] dX6_firstOfTrunk_1 rfl (by decide) rfl rfl ?_
  refine g_lv [1, 2, 0] rfl ?_
  refine wk_X6_firstOfTrunk_L2 hC hr hk _ 600 _ _
theorem cn_X6_firstOfTrunk (l : Launch) (a1 : Int) (M : fMem) : fMt l vwCl TB yX6_firstOfTrunk cX6_firstOfTrunk 3 (some .int) 0 0 0 (fun ad => [.ref (ad 115), .int (fI a1)]) M (dn_X6_firstOfTrunk a1 M) :=
  fMt.of (by decide +kernel) (fun _ => Nat.le_of_ble_eq_true rfl) (fun p e s m args below meth c D aC ad hC hr hk => wk_X6_firstOfTrunk hC hr hk a1 M)
def dn_X6_bring_J132  (a1 a2 a4 : Int) (M : fMem) : fOp :=
  fRd M 124 4 a1 (fun x11 => fCl (dn_X6_revise a1 x11 a2 0 M) (fun v12 M13 => some (v12, M13)))
set_option maxRecDepth 100000 in
set_option maxHeartbeats 4000000 in
theorem wk_X6_bring_J132 {l : Launch} {p : Program} {e : Env} {s : State} {m : MethodId} {args : Array Value} {below : List Frame} {meth : Method} {c : Code} {D : va_G} {aC : Nat → ClassId} {ad : Nat → Nat} (hC : fCx p s m args c vwCl D aC TB ad (fFr ad TB) goodTs cX6_bring RX6 5) (hr : meth.sig.returnType = some .int) (hk : meth.locks = false) (a1 a2 a4 : Int)  (M : fMem) : GM l p e s m args below meth c D aC ad 5 3 69 0 132 [(0, .ref (ad 115)), (1, .int (fI a1)), (2, .long (fL a2)), (4, .int (fI a4))] [] M (dn_X6_bring_J132 a1 a2 a4 M) := by
  unfold dn_X6_bring_J132
  refine g_aload_n hC 0 133 rfl dX6_bring_132 rfl rfl ?_
  refine g_iload_n hC 1 134 rfl dX6_bring_133 rfl rfl ?_
  refine g_aload_n hC 0 135 rfl dX6_bring_134 rfl rfl ?_
  refine g_getA hC 138 inX6 rfl 8 (by decide) gw_535 rfl tb_MD rfl dX6_bring_135 rfl ?_
  refine g_iload_n hC 1 139 rfl dX6_bring_138 rfl rfl ?_
  refine g_iald hC 140 tb_MD_9 (by decide) dX6_bring_139 rfl (fun x11 => ?_)
  refine g_lload_n hC 2 141 rfl dX6_bring_140 rfl rfl ?_
  refine g_iconst hC 142 dX6_bring_141 rfl ?_
  refine g_cV hC 145 4 [.int (fI a1), .int (fI x11), .long (fL a2), .int (fI 0)] [] (cn_X6_revise l a1 x11 a2 0 _) rfl rfl tb_MD rfl gw_654 gw_657 gw_65 gw_656 gw_42 (by decide +kernel) rfl ⟨Nat.le_of_ble_eq_true rfl, Nat.le_of_ble_eq_true rfl⟩ (Nat.le_of_ble_eq_true rfl) ⟨Nat.zero_le _, Nat.zero_le _⟩ dX6_bring_142 rfl (fun v12 => .int (fI v12) :: []) (fun _ => rfl) (fun v12 M13 => ?_)
  exact g_ireturn hC hr hk dX6_bring_145
def dn_X6_bring_J115  (a1 a2 a4 : Int) (M : fMem) : fOp :=
  fEq a4 0 (dn_X6_bring_J132 a1 a2 a4 M) (fRd M 124 4 a1 (fun x14 => fWr M 125 4 a1 x14 (fun M15 => dn_X6_bring_J132 a1 a2 a4 M15)))
set_option maxRecDepth 100000 in
set_option maxHeartbeats 4000000 in
theorem wk_X6_bring_J115 {l : Launch} {p : Program} {e : Env} {s : State} {m : MethodId} {args : Array Value} {below : List Frame} {meth : Method} {c : Code} {D : va_G} {aC : Nat → ClassId} {ad : Nat → Nat} (hC : fCx p s m args c vwCl D aC TB ad (fFr ad TB) goodTs cX6_bring RX6 5) (hr : meth.sig.returnType = some .int) (hk : meth.locks = false) (a1 a2 a4 : Int)  (M : fMem) : GM l p e s m args below meth c D aC ad 5 3 69 0 115 [(0, .ref (ad 115)), (1, .int (fI a1)), (2, .long (fL a2)), (4, .int (fI a4))] [] M (dn_X6_bring_J115 a1 a2 a4 M) := by
  unfold dn_X6_bring_J115
  refine g_iload hC 3 117 rfl dX6_bring_115 rfl ?_
  refine g_if_eq hC 132 120 dX6_bring_117 rfl rfl ?_ ?_
  · exact wk_X6_bring_J132 hC hr hk _ _ _ _
  · refine g_aload_n hC 0 121 rfl dX6_bring_120 rfl rfl ?_
    refine g_getA hC 124 inX6 rfl 9 (by decide) gw_536 rfl tb_MD rfl dX6_bring_121 rfl ?_
    refine g_iload_n hC 1 125 rfl dX6_bring_124 rfl rfl ?_
    refine g_aload_n hC 0 126 rfl dX6_bring_125 rfl rfl ?_
    refine g_getA hC 129 inX6 rfl 8 (by decide) gw_535 rfl tb_MD rfl dX6_bring_126 rfl ?_
    refine g_iload_n hC 1 130 rfl dX6_bring_129 rfl rfl ?_
    refine g_iald hC 131 tb_MD_9 (by decide) dX6_bring_130 rfl (fun x14 => ?_)
    refine g_iast hC 132 tb_MD_10 (by decide) dX6_bring_131 rfl (fun M15 => ?_)
    exact wk_X6_bring_J132 hC hr hk _ _ _ _
def dn_X6_bring_J89  (a1 a2 a4 : Int) (M : fMem) : fOp :=
  fRd M 124 4 a1 (fun x10 => fLe 0 x10 (dn_X6_bring_J115 a1 a2 a4 M) (fCl (dn_X6_firstOfTrunk a1 M) (fun v16 M17 => fCl (dn_X6_branchAt a1 v16 1 M17) (fun v18 M19 => fWr M19 124 4 a1 v18 (fun M20 => dn_X6_bring_J115 a1 a2 a4 M20)))))
set_option maxRecDepth 100000 in
set_option maxHeartbeats 4000000 in
theorem wk_X6_bring_J89 {l : Launch} {p : Program} {e : Env} {s : State} {m : MethodId} {args : Array Value} {below : List Frame} {meth : Method} {c : Code} {D : va_G} {aC : Nat → ClassId} {ad : Nat → Nat} (hC : fCx p s m args c vwCl D aC TB ad (fFr ad TB) goodTs cX6_bring RX6 5) (hr : meth.sig.returnType = some .int) (hk : meth.locks = false) (a1 a2 a4 : Int)  (M : fMem) : GM l p e s m args below meth c D aC ad 5 3 69 0 89 [(0, .ref (ad 115)), (1, .int (fI a1)), (2, .long (fL a2)), (4, .int (fI a4))] [] M (dn_X6_bring_J89 a1 a2 a4 M) := by
  unfold dn_X6_bring_J89
  refine g_aload_n hC 0 90 rfl dX6_bring_89 rfl rfl ?_
  refine g_getA hC 93 inX6 rfl 8 (by decide) gw_535 rfl tb_MD rfl dX6_bring_90 rfl ?_
  refine g_iload_n hC 1 94 rfl dX6_bring_93 rfl rfl ?_
  refine g_iald hC 95 tb_MD_9 (by decide) dX6_bring_94 rfl (fun x10 => ?_)
  refine g_if_ge hC 115 98 dX6_bring_95 rfl rfl ?_ ?_
  · exact wk_X6_bring_J115 hC hr hk _ _ _ _
  · refine g_aload_n hC 0 99 rfl dX6_bring_98 rfl rfl ?_
    refine g_getA hC 102 inX6 rfl 8 (by decide) gw_535 rfl tb_MD rfl dX6_bring_99 rfl ?_
    refine g_iload_n hC 1 103 rfl dX6_bring_102 rfl rfl ?_
    refine g_aload_n hC 0 104 rfl dX6_bring_103 rfl rfl ?_
    refine g_iload_n hC 1 105 rfl dX6_bring_104 rfl rfl ?_
    refine g_aload_n hC 0 106 rfl dX6_bring_105 rfl rfl ?_
    refine g_iload_n hC 1 107 rfl dX6_bring_106 rfl rfl ?_
    refine g_cV hC 110 1 [.int (fI a1)] [.int (fI a1), .ref (ad 115), .int (fI a1), .ref (ad 124)] (cn_X6_firstOfTrunk l a1 _) rfl rfl tb_MD rfl gw_713 gw_716 gw_65 gw_715 gw_53 (by decide +kernel) rfl ⟨Nat.le_of_ble_eq_true rfl, Nat.le_of_ble_eq_true rfl⟩ (Nat.le_of_ble_eq_true rfl) ⟨Nat.zero_le _, Nat.zero_le _⟩ dX6_bring_107 rfl (fun v16 => .int (fI v16) :: [.int (fI a1), .ref (ad 115), .int (fI a1), .ref (ad 124)]) (fun _ => rfl) (fun v16 M17 => ?_)
    refine g_iconst hC 111 dX6_bring_110 rfl ?_
    refine g_cV hC 114 3 [.int (fI a1), .int (fI v16), .int (fI 1)] [.int (fI a1), .ref (ad 124)] (cn_X6_branchAt l a1 v16 1 _) rfl rfl tb_MD rfl gw_662 gw_665 gw_65 gw_664 gw_44 (by decide +kernel) rfl ⟨Nat.le_of_ble_eq_true rfl, Nat.le_of_ble_eq_true rfl⟩ (Nat.le_of_ble_eq_true rfl) ⟨Nat.zero_le _, Nat.zero_le _⟩ dX6_bring_111 rfl (fun v18 => .int (fI v18) :: [.int (fI a1), .ref (ad 124)]) (fun _ => rfl) (fun v18 M19 => ?_)
    refine g_iast hC 115 tb_MD_9 (by decide) dX6_bring_114 rfl (fun M20 => ?_)
    exact wk_X6_bring_J115 hC hr hk _ _ _ _
def dn_X6_bring_J75  (a1 a2 a4 : Int) (M : fMem) : fOp :=
  fEq a4 0 (dn_X6_bring_J89 a1 a2 a4 M) (fCl (dn_X6_revise a1 0 a2 0 M) (fun v21 M22 => dn_X6_bring_J89 a1 a2 a4 M22))
set_option maxRecDepth 100000 in
set_option maxHeartbeats 4000000 in
theorem wk_X6_bring_J75 {l : Launch} {p : Program} {e : Env} {s : State} {m : MethodId} {args : Array Value} {below : List Frame} {meth : Method} {c : Code} {D : va_G} {aC : Nat → ClassId} {ad : Nat → Nat} (hC : fCx p s m args c vwCl D aC TB ad (fFr ad TB) goodTs cX6_bring RX6 5) (hr : meth.sig.returnType = some .int) (hk : meth.locks = false) (a1 a2 a4 : Int)  (M : fMem) : GM l p e s m args below meth c D aC ad 5 3 69 0 75 [(0, .ref (ad 115)), (1, .int (fI a1)), (2, .long (fL a2)), (4, .int (fI a4))] [] M (dn_X6_bring_J75 a1 a2 a4 M) := by
  unfold dn_X6_bring_J75
  refine g_iload hC 3 77 rfl dX6_bring_75 rfl ?_
  refine g_if_eq hC 89 80 dX6_bring_77 rfl rfl ?_ ?_
  · exact wk_X6_bring_J89 hC hr hk _ _ _ _
  · refine g_aload_n hC 0 81 rfl dX6_bring_80 rfl rfl ?_
    refine g_iload_n hC 1 82 rfl dX6_bring_81 rfl rfl ?_
    refine g_iconst hC 83 dX6_bring_82 rfl ?_
    refine g_lload_n hC 2 84 rfl dX6_bring_83 rfl rfl ?_
    refine g_iconst hC 85 dX6_bring_84 rfl ?_
    refine g_cV hC 88 4 [.int (fI a1), .int (fI 0), .long (fL a2), .int (fI 0)] [] (cn_X6_revise l a1 0 a2 0 _) rfl rfl tb_MD rfl gw_654 gw_657 gw_65 gw_656 gw_42 (by decide +kernel) rfl ⟨Nat.le_of_ble_eq_true rfl, Nat.le_of_ble_eq_true rfl⟩ (Nat.le_of_ble_eq_true rfl) ⟨Nat.zero_le _, Nat.zero_le _⟩ dX6_bring_85 rfl (fun v21 => .int (fI v21) :: []) (fun _ => rfl) (fun v21 M22 => ?_)
    refine g_pop hC 89 dX6_bring_88 rfl rfl ?_
    exact wk_X6_bring_J89 hC hr hk _ _ _ _
def dn_X6_bring_J38  (a1 a2 as0 : Int) (M : fMem) : fOp :=
  fRd M 116 4 a1 (fun x8 => fLt 24 (x8 + 1) (some ((-7), M)) (fRd M 124 4 a1 (fun x9 => fLe 0 x9 (dn_X6_bring_J75 a1 a2 as0 M) (fRd M 121 4 a1 (fun x23 => fEq x23 5 (some ((-7), M)) (dn_X6_bring_J75 a1 a2 as0 M))))))
set_option maxRecDepth 100000 in
set_option maxHeartbeats 4000000 in
theorem wk_X6_bring_J38 {l : Launch} {p : Program} {e : Env} {s : State} {m : MethodId} {args : Array Value} {below : List Frame} {meth : Method} {c : Code} {D : va_G} {aC : Nat → ClassId} {ad : Nat → Nat} (hC : fCx p s m args c vwCl D aC TB ad (fFr ad TB) goodTs cX6_bring RX6 5) (hr : meth.sig.returnType = some .int) (hk : meth.locks = false) (a1 a2 as0 : Int)  (M : fMem) : GM l p e s m args below meth c D aC ad 5 3 69 0 38 [(0, .ref (ad 115)), (1, .int (fI a1)), (2, .long (fL a2))] [.int (fI as0)] M (dn_X6_bring_J38 a1 a2 as0 M) := by
  unfold dn_X6_bring_J38
  refine g_istore hC 40 [(4, .int (fI as0)), (0, .ref (ad 115)), (1, .int (fI a1)), (2, .long (fL a2))] dX6_bring_38 (by decide) rfl rfl ?_
  refine g_aload_n hC 1 41 rfl dX6_bring_40 rfl rfl ?_
  refine g_getA hC 44 inX6 rfl 0 (by decide) gw_527 rfl tb_MD rfl dX6_bring_41 rfl ?_
  refine g_iload_n hC 2 45 rfl dX6_bring_44 rfl rfl ?_
  refine g_iald hC 46 tb_MD_1 (by decide) dX6_bring_45 rfl (fun x8 => ?_)
  refine g_iconst hC 47 dX6_bring_46 rfl ?_
  refine g_iadd hC 48 dX6_bring_47 rfl ?_
  refine g_bipush hC 50 dX6_bring_48 rfl (by decide +kernel) ?_
  refine g_icmp_gt hC 72 53 dX6_bring_50 rfl rfl ?_ ?_
  · refine g_bipush hC 74 dX6_bring_72 rfl (by decide +kernel) ?_
    exact g_ireturn hC hr hk dX6_bring_74
  · refine g_aload_n hC 1 54 rfl dX6_bring_53 rfl rfl ?_
    refine g_getA hC 57 inX6 rfl 8 (by decide) gw_535 rfl tb_MD rfl dX6_bring_54 rfl ?_
    refine g_iload_n hC 2 58 rfl dX6_bring_57 rfl rfl ?_
    refine g_iald hC 59 tb_MD_9 (by decide) dX6_bring_58 rfl (fun x9 => ?_)
    refine g_if_ge hC 75 62 dX6_bring_59 rfl rfl ?_ ?_
    · refine g_lv [1, 2, 3, 0] rfl ?_
      exact wk_X6_bring_J75 hC hr hk _ _ _ _
    · refine g_aload_n hC 1 63 rfl dX6_bring_62 rfl rfl ?_
      refine g_getA hC 66 inX6 rfl 5 (by decide) gw_532 rfl tb_MD rfl dX6_bring_63 rfl ?_
      refine g_iload_n hC 2 67 rfl dX6_bring_66 rfl rfl ?_
      refine g_iald hC 68 tb_MD_6 (by decide) dX6_bring_67 rfl (fun x23 => ?_)
      refine g_iconst hC 69 dX6_bring_68 rfl ?_
      refine g_icmp_ne hC 75 72 dX6_bring_69 rfl rfl ?_ ?_
      · refine g_lv [1, 2, 3, 0] rfl ?_
        exact wk_X6_bring_J75 hC hr hk _ _ _ _
      · refine g_bipush hC 74 dX6_bring_72 rfl (by decide +kernel) ?_
        exact g_ireturn hC hr hk dX6_bring_74
def dn_X6_bring (a1 : Int) (a2 : Int) (M : fMem) : fOp :=
  fCl (dn_X6_below a1 4 M) (fun v1 M2 => fEq v1 0 (some ((-1), M2)) (fCl (dn_X6_noText a2 M2) (fun v3 M4 => fEq v3 0 (fCl (dn_X6_hasMarks a2 M4) (fun v5 M6 => fEq v5 0 (fRd M6 116 4 a1 (fun x7 => fEq x7 0 (dn_X6_bring_J38 a1 a2 1 M6) (dn_X6_bring_J38 a1 a2 0 M6))) (some ((-1), M6)))) (some ((-1), M4)))))
set_option maxRecDepth 100000 in
set_option maxHeartbeats 4000000 in
theorem wk_X6_bring {l : Launch} {p : Program} {e : Env} {s : State} {m : MethodId} {args : Array Value} {below : List Frame} {meth : Method} {c : Code} {D : va_G} {aC : Nat → ClassId} {ad : Nat → Nat} (hC : fCx p s m args c vwCl D aC TB ad (fFr ad TB) goodTs cX6_bring RX6 5) (hr : meth.sig.returnType = some .int) (hk : meth.locks = false) (a1 : Int) (a2 : Int) (M : fMem) : GM l p e s m args below meth c D aC ad 5 3 69 0 0 [(0, .ref (ad 115)), (1, .int (fI a1)), (2, .long (fL a2))] [] M (dn_X6_bring a1 a2 M) := by
  unfold dn_X6_bring
  refine g_iload_n hC 1 1 rfl dX6_bring_0 rfl rfl ?_
  refine g_iconst hC 2 dX6_bring_1 rfl ?_
  refine g_cS hC 5 2 [.int (fI a1), .int (fI 4)] [] (cn_X6_below l a1 4 _) rfl rfl gw_601 gw_603 gw_65 gw_602 (by decide +kernel) rfl ⟨Nat.le_of_ble_eq_true rfl, Nat.le_of_ble_eq_true rfl⟩ (Nat.le_of_ble_eq_true rfl) ⟨Nat.zero_le _, Nat.zero_le _⟩ dX6_bring_2 rfl (fun v1 => .int (fI v1) :: []) (fun _ => rfl) (fun v1 M2 => ?_)
  refine g_if_eq hC 22 8 dX6_bring_5 rfl rfl ?_ ?_
  · refine g_iconst hC 23 dX6_bring_22 rfl ?_
    exact g_ireturn hC hr hk dX6_bring_23
  · refine g_lload_n hC 2 9 rfl dX6_bring_8 rfl rfl ?_
    refine g_cS hC 12 1 [.long (fL a2)] [] (cn_X6_noText l a2 _) rfl rfl gw_604 gw_606 gw_65 gw_605 (by decide +kernel) rfl ⟨Nat.le_of_ble_eq_true rfl, Nat.le_of_ble_eq_true rfl⟩ (Nat.le_of_ble_eq_true rfl) ⟨Nat.zero_le _, Nat.zero_le _⟩ dX6_bring_9 rfl (fun v3 => .int (fI v3) :: []) (fun _ => rfl) (fun v3 M4 => ?_)
    refine g_if_ne hC 22 15 dX6_bring_12 rfl rfl ?_ ?_
    · refine g_iconst hC 23 dX6_bring_22 rfl ?_
      exact g_ireturn hC hr hk dX6_bring_23
    · refine g_lload_n hC 2 16 rfl dX6_bring_15 rfl rfl ?_
      refine g_cS hC 19 1 [.long (fL a2)] [] (cn_X6_hasMarks l a2 _) rfl rfl gw_615 gw_617 gw_65 gw_616 (by decide +kernel) rfl ⟨Nat.le_of_ble_eq_true rfl, Nat.le_of_ble_eq_true rfl⟩ (Nat.le_of_ble_eq_true rfl) ⟨Nat.zero_le _, Nat.zero_le _⟩ dX6_bring_16 rfl (fun v5 => .int (fI v5) :: []) (fun _ => rfl) (fun v5 M6 => ?_)
      refine g_if_eq hC 24 22 dX6_bring_19 rfl rfl ?_ ?_
      · refine g_aload_n hC 0 25 rfl dX6_bring_24 rfl rfl ?_
        refine g_getA hC 28 inX6 rfl 0 (by decide) gw_527 rfl tb_MD rfl dX6_bring_25 rfl ?_
        refine g_iload_n hC 1 29 rfl dX6_bring_28 rfl rfl ?_
        refine g_iald hC 30 tb_MD_1 (by decide) dX6_bring_29 rfl (fun x7 => ?_)
        refine g_if_ne hC 37 33 dX6_bring_30 rfl rfl ?_ ?_
        · refine g_iconst hC 38 dX6_bring_37 rfl ?_
          exact wk_X6_bring_J38 hC hr hk _ _ _ _
        · refine g_iconst hC 34 dX6_bring_33 rfl ?_
          refine g_goto hC 38 dX6_bring_34 rfl ?_
          exact wk_X6_bring_J38 hC hr hk _ _ _ _
      · refine g_iconst hC 23 dX6_bring_22 rfl ?_
        exact g_ireturn hC hr hk dX6_bring_23
theorem cn_X6_bring (l : Launch) (a1 : Int) (a2 : Int) (M : fMem) : fMt l vwCl TB yX6_bring cX6_bring 5 (some .int) 3 69 0 (fun ad => [.ref (ad 115), .int (fI a1), .long (fL a2)]) M (dn_X6_bring a1 a2 M) :=
  fMt.of (by decide +kernel) (fun _ => Nat.le_of_ble_eq_true rfl) (fun p e s m args below meth c D aC ad hC hr hk => wk_X6_bring hC hr hk a1 a2 M)
def dn_X6_entry (a1 : Int) (a2 : Int) (M : fMem) : fOp :=
  fCl (dn_X6_noPair a1 a2 M) (fun v1 M2 => fEq v1 0 (fRd M2 128 12 ((4 * a1) + a2) (fun x3 => some (x3, M2))) (some ((-1), M2)))
set_option maxRecDepth 100000 in
set_option maxHeartbeats 4000000 in
theorem wk_X6_entry {l : Launch} {p : Program} {e : Env} {s : State} {m : MethodId} {args : Array Value} {below : List Frame} {meth : Method} {c : Code} {D : va_G} {aC : Nat → ClassId} {ad : Nat → Nat} (hC : fCx p s m args c vwCl D aC TB ad (fFr ad TB) goodTs cX6_entry RX6 3) (hr : meth.sig.returnType = some .int) (hk : meth.locks = false) (a1 : Int) (a2 : Int) (M : fMem) : GM l p e s m args below meth c D aC ad 3 2 42 0 0 [(0, .ref (ad 115)), (1, .int (fI a1)), (2, .int (fI a2))] [] M (dn_X6_entry a1 a2 M) := by
  unfold dn_X6_entry
  refine g_iload_n hC 1 1 rfl dX6_entry_0 rfl rfl ?_
  refine g_iload_n hC 2 2 rfl dX6_entry_1 rfl rfl ?_
  refine g_cS hC 5 2 [.int (fI a1), .int (fI a2)] [] (cn_X6_noPair l a1 a2 _) rfl rfl gw_598 gw_600 gw_65 gw_599 (by decide +kernel) rfl ⟨Nat.le_of_ble_eq_true rfl, Nat.le_of_ble_eq_true rfl⟩ (Nat.le_of_ble_eq_true rfl) ⟨Nat.zero_le _, Nat.zero_le _⟩ dX6_entry_2 rfl (fun v1 => .int (fI v1) :: []) (fun _ => rfl) (fun v1 M2 => ?_)
  refine g_if_eq hC 12 8 dX6_entry_5 rfl rfl ?_ ?_
  · refine g_aload_n hC 0 13 rfl dX6_entry_12 rfl rfl ?_
    refine g_getA hC 16 inX6 rfl 12 (by decide) gw_539 rfl tb_MD rfl dX6_entry_13 rfl ?_
    refine g_iconst hC 17 dX6_entry_16 rfl ?_
    refine g_iload_n hC 1 18 rfl dX6_entry_17 rfl rfl ?_
    refine g_imul hC 19 dX6_entry_18 rfl ?_
    refine g_iload_n hC 2 20 rfl dX6_entry_19 rfl rfl ?_
    refine g_iadd hC 21 dX6_entry_20 rfl ?_
    refine g_iald hC 22 tb_MD_13 (by decide) dX6_entry_21 rfl (fun x3 => ?_)
    exact g_ireturn hC hr hk dX6_entry_22
  · refine g_iconst hC 9 dX6_entry_8 rfl ?_
    refine g_goto hC 22 dX6_entry_9 rfl ?_
    exact g_ireturn hC hr hk dX6_entry_22
theorem cn_X6_entry (l : Launch) (a1 : Int) (a2 : Int) (M : fMem) : fMt l vwCl TB yX6_entry cX6_entry 3 (some .int) 2 42 0 (fun ad => [.ref (ad 115), .int (fI a1), .int (fI a2)]) M (dn_X6_entry a1 a2 M) :=
  fMt.of (by decide +kernel) (fun _ => Nat.le_of_ble_eq_true rfl) (fun p e s m args below meth c D aC ad hC hr hk => wk_X6_entry hC hr hk a1 a2 M)
def dn_X6_removed (a1 : Int) (a2 : Int) (M : fMem) : fOp :=
  fCl (dn_X6_noPair a1 a2 M) (fun v1 M2 => fEq v1 0 (fRd M2 128 12 ((4 * a1) + a2) (fun x3 => fLt x3 0 (fRz 0 M2) (fRd M2 129 12 ((4 * a1) + a2) (fun x4 => fEq x4 0 (fRz 0 M2) (fRz 1 M2))))) (fRz 0 M2))
set_option maxRecDepth 100000 in
set_option maxHeartbeats 4000000 in
theorem wk_X6_removed {l : Launch} {p : Program} {e : Env} {s : State} {m : MethodId} {args : Array Value} {below : List Frame} {meth : Method} {c : Code} {D : va_G} {aC : Nat → ClassId} {ad : Nat → Nat} (hC : fCx p s m args c vwCl D aC TB ad (fFr ad TB) goodTs cX6_removed RX6 3) (hr : meth.sig.returnType = some .boolean) (hk : meth.locks = false) (a1 : Int) (a2 : Int) (M : fMem) : GM l p e s m args below meth c D aC ad 3 2 42 0 0 [(0, .ref (ad 115)), (1, .int (fI a1)), (2, .int (fI a2))] [] M (dn_X6_removed a1 a2 M) := by
  unfold dn_X6_removed
  refine g_iload_n hC 1 1 rfl dX6_removed_0 rfl rfl ?_
  refine g_iload_n hC 2 2 rfl dX6_removed_1 rfl rfl ?_
  refine g_cS hC 5 2 [.int (fI a1), .int (fI a2)] [] (cn_X6_noPair l a1 a2 _) rfl rfl gw_598 gw_600 gw_65 gw_599 (by decide +kernel) rfl ⟨Nat.le_of_ble_eq_true rfl, Nat.le_of_ble_eq_true rfl⟩ (Nat.le_of_ble_eq_true rfl) ⟨Nat.zero_le _, Nat.zero_le _⟩ dX6_removed_2 rfl (fun v1 => .int (fI v1) :: []) (fun _ => rfl) (fun v1 M2 => ?_)
  refine g_if_ne hC 38 8 dX6_removed_5 rfl rfl ?_ ?_
  · refine g_iconst hC 39 dX6_removed_38 rfl ?_
    exact g_zreturn hC hr hk dX6_removed_39
  · refine g_aload_n hC 0 9 rfl dX6_removed_8 rfl rfl ?_
    refine g_getA hC 12 inX6 rfl 12 (by decide) gw_539 rfl tb_MD rfl dX6_removed_9 rfl ?_
    refine g_iconst hC 13 dX6_removed_12 rfl ?_
    refine g_iload_n hC 1 14 rfl dX6_removed_13 rfl rfl ?_
    refine g_imul hC 15 dX6_removed_14 rfl ?_
    refine g_iload_n hC 2 16 rfl dX6_removed_15 rfl rfl ?_
    refine g_iadd hC 17 dX6_removed_16 rfl ?_
    refine g_iald hC 18 tb_MD_13 (by decide) dX6_removed_17 rfl (fun x3 => ?_)
    refine g_if_lt hC 38 21 dX6_removed_18 rfl rfl ?_ ?_
    · refine g_iconst hC 39 dX6_removed_38 rfl ?_
      exact g_zreturn hC hr hk dX6_removed_39
    · refine g_aload_n hC 0 22 rfl dX6_removed_21 rfl rfl ?_
      refine g_getA hC 25 inX6 rfl 13 (by decide) gw_540 rfl tb_MD rfl dX6_removed_22 rfl ?_
      refine g_iconst hC 26 dX6_removed_25 rfl ?_
      refine g_iload_n hC 1 27 rfl dX6_removed_26 rfl rfl ?_
      refine g_imul hC 28 dX6_removed_27 rfl ?_
      refine g_iload_n hC 2 29 rfl dX6_removed_28 rfl rfl ?_
      refine g_iadd hC 30 dX6_removed_29 rfl ?_
      refine g_zald hC 31 tb_MD_14 (by decide) dX6_removed_30 rfl (fun x4 => ?_)
      refine g_if_eq hC 38 34 dX6_removed_31 rfl rfl ?_ ?_
      · refine g_iconst hC 39 dX6_removed_38 rfl ?_
        exact g_zreturn hC hr hk dX6_removed_39
      · refine g_iconst hC 35 dX6_removed_34 rfl ?_
        refine g_goto hC 39 dX6_removed_35 rfl ?_
        exact g_zreturn hC hr hk dX6_removed_39
theorem cn_X6_removed (l : Launch) (a1 : Int) (a2 : Int) (M : fMem) : fMt l vwCl TB yX6_removed cX6_removed 3 (some .boolean) 2 42 0 (fun ad => [.ref (ad 115), .int (fI a1), .int (fI a2)]) M (dn_X6_removed a1 a2 M) :=
  fMt.of (by decide +kernel) (fun _ => Nat.le_of_ble_eq_true rfl) (fun p e s m args below meth c D aC ad hC hr hk => wk_X6_removed hC hr hk a1 a2 M)
def dn_X6_local_J20  (a1 a2 : Int) (M : fMem) : fOp :=
  some ((-1), M)
set_option maxRecDepth 100000 in
set_option maxHeartbeats 4000000 in
theorem wk_X6_local_J20 {l : Launch} {p : Program} {e : Env} {s : State} {m : MethodId} {args : Array Value} {below : List Frame} {meth : Method} {c : Code} {D : va_G} {aC : Nat → ClassId} {ad : Nat → Nat} (hC : fCx p s m args c vwCl D aC TB ad (fFr ad TB) goodTs cX6_local RX6 3) (hr : meth.sig.returnType = some .long) (hk : meth.locks = false) (a1 a2 : Int)  (M : fMem) : GM l p e s m args below meth c D aC ad 3 2 42 1 20 [(0, .ref (ad 115)), (1, .int (fI a1)), (2, .int (fI a2))] [] M (dn_X6_local_J20 a1 a2 M) := by
  unfold dn_X6_local_J20
  refine g_ldc2 hC (-1) 23 gw_729 dX6_local_20 rfl ?_
  refine g_goto hC 36 dX6_local_23 rfl ?_
  exact g_lreturn hC hr hk dX6_local_36
def dn_X6_local (a1 : Int) (a2 : Int) (M : fMem) : fOp :=
  fCl (dn_X6_noPair a1 a2 M) (fun v1 M2 => fEq v1 0 (fCl (dn_X6_hasLocal ((4 * a1) + a2) M2) (fun v3 M4 => fEq v3 0 (dn_X6_local_J20 a1 a2 M4) (fRd M4 130 12 ((4 * a1) + a2) (fun x5 => some (x5, M4))))) (dn_X6_local_J20 a1 a2 M2))
set_option maxRecDepth 100000 in
set_option maxHeartbeats 4000000 in
theorem wk_X6_local {l : Launch} {p : Program} {e : Env} {s : State} {m : MethodId} {args : Array Value} {below : List Frame} {meth : Method} {c : Code} {D : va_G} {aC : Nat → ClassId} {ad : Nat → Nat} (hC : fCx p s m args c vwCl D aC TB ad (fFr ad TB) goodTs cX6_local RX6 3) (hr : meth.sig.returnType = some .long) (hk : meth.locks = false) (a1 : Int) (a2 : Int) (M : fMem) : GM l p e s m args below meth c D aC ad 3 2 42 1 0 [(0, .ref (ad 115)), (1, .int (fI a1)), (2, .int (fI a2))] [] M (dn_X6_local a1 a2 M) := by
  unfold dn_X6_local
  refine g_iload_n hC 1 1 rfl dX6_local_0 rfl rfl ?_
  refine g_iload_n hC 2 2 rfl dX6_local_1 rfl rfl ?_
  refine g_cS hC 5 2 [.int (fI a1), .int (fI a2)] [] (cn_X6_noPair l a1 a2 _) rfl rfl gw_598 gw_600 gw_65 gw_599 (by decide +kernel) rfl ⟨Nat.le_of_ble_eq_true rfl, Nat.le_of_ble_eq_true rfl⟩ (Nat.le_of_ble_eq_true rfl) ⟨Nat.zero_le _, Nat.zero_le _⟩ dX6_local_2 rfl (fun v1 => .int (fI v1) :: []) (fun _ => rfl) (fun v1 M2 => ?_)
  refine g_if_ne hC 20 8 dX6_local_5 rfl rfl ?_ ?_
  · exact wk_X6_local_J20 hC hr hk _ _ _
  · refine g_aload_n hC 0 9 rfl dX6_local_8 rfl rfl ?_
    refine g_iconst hC 10 dX6_local_9 rfl ?_
    refine g_iload_n hC 1 11 rfl dX6_local_10 rfl rfl ?_
    refine g_imul hC 12 dX6_local_11 rfl ?_
    refine g_iload_n hC 2 13 rfl dX6_local_12 rfl rfl ?_
    refine g_iadd hC 14 dX6_local_13 rfl ?_
    refine g_cV hC 17 1 [.int (fI ((4 * a1) + a2))] [] (cn_X6_hasLocal l ((4 * a1) + a2) _) rfl rfl tb_MD rfl gw_622 gw_625 gw_65 gw_624 gw_36 (by decide +kernel) rfl ⟨Nat.le_of_ble_eq_true rfl, Nat.le_of_ble_eq_true rfl⟩ (Nat.le_of_ble_eq_true rfl) ⟨Nat.zero_le _, Nat.zero_le _⟩ dX6_local_14 rfl (fun v3 => .int (fI v3) :: []) (fun _ => rfl) (fun v3 M4 => ?_)
    refine g_if_ne hC 26 20 dX6_local_17 rfl rfl ?_ ?_
    · refine g_aload_n hC 0 27 rfl dX6_local_26 rfl rfl ?_
      refine g_getA hC 30 inX6 rfl 14 (by decide) gw_541 rfl tb_MD rfl dX6_local_27 rfl ?_
      refine g_iconst hC 31 dX6_local_30 rfl ?_
      refine g_iload_n hC 1 32 rfl dX6_local_31 rfl rfl ?_
      refine g_imul hC 33 dX6_local_32 rfl ?_
      refine g_iload_n hC 2 34 rfl dX6_local_33 rfl rfl ?_
      refine g_iadd hC 35 dX6_local_34 rfl ?_
      refine g_lald hC 36 tb_MD_15 (by decide) dX6_local_35 rfl (fun x5 => ?_)
      exact g_lreturn hC hr hk dX6_local_36
    · exact wk_X6_local_J20 hC hr hk _ _ _
theorem cn_X6_local (l : Launch) (a1 : Int) (a2 : Int) (M : fMem) : fMt l vwCl TB yX6_local cX6_local 3 (some .long) 2 42 1 (fun ad => [.ref (ad 115), .int (fI a1), .int (fI a2)]) M (dn_X6_local a1 a2 M) :=
  fMt.of (by decide +kernel) (fun _ => Nat.le_of_ble_eq_true rfl) (fun p e s m args below meth c D aC ad hC hr hk => wk_X6_local hC hr hk a1 a2 M)
def dn_X6_selected (a1 : Int) (a2 : Int) (M : fMem) : fOp :=
  fCl (dn_X6_noPair a1 a2 M) (fun v1 M2 => fEq v1 0 (fRd M2 131 12 ((4 * a1) + a2) (fun x3 => fCl (dn_X6_selectedBy a2 x3 M2) (fun v4 M5 => some (v4, M5)))) (some ((-1), M2)))
set_option maxRecDepth 100000 in
set_option maxHeartbeats 4000000 in
theorem wk_X6_selected {l : Launch} {p : Program} {e : Env} {s : State} {m : MethodId} {args : Array Value} {below : List Frame} {meth : Method} {c : Code} {D : va_G} {aC : Nat → ClassId} {ad : Nat → Nat} (hC : fCx p s m args c vwCl D aC TB ad (fFr ad TB) goodTs cX6_selected RX6 3) (hr : meth.sig.returnType = some .int) (hk : meth.locks = false) (a1 : Int) (a2 : Int) (M : fMem) : GM l p e s m args below meth c D aC ad 3 2 48 0 0 [(0, .ref (ad 115)), (1, .int (fI a1)), (2, .int (fI a2))] [] M (dn_X6_selected a1 a2 M) := by
  unfold dn_X6_selected
  refine g_iload_n hC 1 1 rfl dX6_selected_0 rfl rfl ?_
  refine g_iload_n hC 2 2 rfl dX6_selected_1 rfl rfl ?_
  refine g_cS hC 5 2 [.int (fI a1), .int (fI a2)] [] (cn_X6_noPair l a1 a2 _) rfl rfl gw_598 gw_600 gw_65 gw_599 (by decide +kernel) rfl ⟨Nat.le_of_ble_eq_true rfl, Nat.le_of_ble_eq_true rfl⟩ (Nat.le_of_ble_eq_true rfl) ⟨Nat.zero_le _, Nat.zero_le _⟩ dX6_selected_2 rfl (fun v1 => .int (fI v1) :: []) (fun _ => rfl) (fun v1 M2 => ?_)
  refine g_if_eq hC 12 8 dX6_selected_5 rfl rfl ?_ ?_
  · refine g_aload_n hC 0 13 rfl dX6_selected_12 rfl rfl ?_
    refine g_iload_n hC 2 14 rfl dX6_selected_13 rfl rfl ?_
    refine g_aload_n hC 0 15 rfl dX6_selected_14 rfl rfl ?_
    refine g_getA hC 18 inX6 rfl 15 (by decide) gw_542 rfl tb_MD rfl dX6_selected_15 rfl ?_
    refine g_iconst hC 19 dX6_selected_18 rfl ?_
    refine g_iload_n hC 1 20 rfl dX6_selected_19 rfl rfl ?_
    refine g_imul hC 21 dX6_selected_20 rfl ?_
    refine g_iload_n hC 2 22 rfl dX6_selected_21 rfl rfl ?_
    refine g_iadd hC 23 dX6_selected_22 rfl ?_
    refine g_iald hC 24 tb_MD_16 (by decide) dX6_selected_23 rfl (fun x3 => ?_)
    refine g_cV hC 27 2 [.int (fI a2), .int (fI x3)] [] (cn_X6_selectedBy l a2 x3 _) rfl rfl tb_MD rfl gw_638 gw_641 gw_65 gw_640 gw_38 (by decide +kernel) rfl ⟨Nat.le_of_ble_eq_true rfl, Nat.le_of_ble_eq_true rfl⟩ (Nat.le_of_ble_eq_true rfl) ⟨Nat.zero_le _, Nat.zero_le _⟩ dX6_selected_24 rfl (fun v4 => .int (fI v4) :: []) (fun _ => rfl) (fun v4 M5 => ?_)
    exact g_ireturn hC hr hk dX6_selected_27
  · refine g_iconst hC 9 dX6_selected_8 rfl ?_
    refine g_goto hC 27 dX6_selected_9 rfl ?_
    exact g_ireturn hC hr hk dX6_selected_27
theorem cn_X6_selected (l : Launch) (a1 : Int) (a2 : Int) (M : fMem) : fMt l vwCl TB yX6_selected cX6_selected 3 (some .int) 2 48 0 (fun ad => [.ref (ad 115), .int (fI a1), .int (fI a2)]) M (dn_X6_selected a1 a2 M) :=
  fMt.of (by decide +kernel) (fun _ => Nat.le_of_ble_eq_true rfl) (fun p e s m args below meth c D aC ad hC hr hk => wk_X6_selected hC hr hk a1 a2 M)
def dn_X6_sticky (a1 : Int) (a2 : Int) (M : fMem) : fOp :=
  fCl (dn_X6_noPair a1 a2 M) (fun v1 M2 => fEq v1 0 (fRd M2 131 12 ((4 * a1) + a2) (fun x3 => some (x3, M2))) (some ((-1), M2)))
set_option maxRecDepth 100000 in
set_option maxHeartbeats 4000000 in
theorem wk_X6_sticky {l : Launch} {p : Program} {e : Env} {s : State} {m : MethodId} {args : Array Value} {below : List Frame} {meth : Method} {c : Code} {D : va_G} {aC : Nat → ClassId} {ad : Nat → Nat} (hC : fCx p s m args c vwCl D aC TB ad (fFr ad TB) goodTs cX6_sticky RX6 3) (hr : meth.sig.returnType = some .int) (hk : meth.locks = false) (a1 : Int) (a2 : Int) (M : fMem) : GM l p e s m args below meth c D aC ad 3 2 42 0 0 [(0, .ref (ad 115)), (1, .int (fI a1)), (2, .int (fI a2))] [] M (dn_X6_sticky a1 a2 M) := by
  unfold dn_X6_sticky
  refine g_iload_n hC 1 1 rfl dX6_sticky_0 rfl rfl ?_
  refine g_iload_n hC 2 2 rfl dX6_sticky_1 rfl rfl ?_
  refine g_cS hC 5 2 [.int (fI a1), .int (fI a2)] [] (cn_X6_noPair l a1 a2 _) rfl rfl gw_598 gw_600 gw_65 gw_599 (by decide +kernel) rfl ⟨Nat.le_of_ble_eq_true rfl, Nat.le_of_ble_eq_true rfl⟩ (Nat.le_of_ble_eq_true rfl) ⟨Nat.zero_le _, Nat.zero_le _⟩ dX6_sticky_2 rfl (fun v1 => .int (fI v1) :: []) (fun _ => rfl) (fun v1 M2 => ?_)
  refine g_if_eq hC 12 8 dX6_sticky_5 rfl rfl ?_ ?_
  · refine g_aload_n hC 0 13 rfl dX6_sticky_12 rfl rfl ?_
    refine g_getA hC 16 inX6 rfl 15 (by decide) gw_542 rfl tb_MD rfl dX6_sticky_13 rfl ?_
    refine g_iconst hC 17 dX6_sticky_16 rfl ?_
    refine g_iload_n hC 1 18 rfl dX6_sticky_17 rfl rfl ?_
    refine g_imul hC 19 dX6_sticky_18 rfl ?_
    refine g_iload_n hC 2 20 rfl dX6_sticky_19 rfl rfl ?_
    refine g_iadd hC 21 dX6_sticky_20 rfl ?_
    refine g_iald hC 22 tb_MD_16 (by decide) dX6_sticky_21 rfl (fun x3 => ?_)
    exact g_ireturn hC hr hk dX6_sticky_22
  · refine g_iconst hC 9 dX6_sticky_8 rfl ?_
    refine g_goto hC 22 dX6_sticky_9 rfl ?_
    exact g_ireturn hC hr hk dX6_sticky_22
theorem cn_X6_sticky (l : Launch) (a1 : Int) (a2 : Int) (M : fMem) : fMt l vwCl TB yX6_sticky cX6_sticky 3 (some .int) 2 42 0 (fun ad => [.ref (ad 115), .int (fI a1), .int (fI a2)]) M (dn_X6_sticky a1 a2 M) :=
  fMt.of (by decide +kernel) (fun _ => Nat.le_of_ble_eq_true rfl) (fun p e s m args below meth c D aC ad hC hr hk => wk_X6_sticky hC hr hk a1 a2 M)
def dn_X6_revisions (a1 : Int) (M : fMem) : fOp :=
  fCl (dn_X6_below a1 4 M) (fun v1 M2 => fEq v1 0 (some ((-1), M2)) (fRd M2 116 4 a1 (fun x3 => some (x3, M2))))
set_option maxRecDepth 100000 in
set_option maxHeartbeats 4000000 in
theorem wk_X6_revisions {l : Launch} {p : Program} {e : Env} {s : State} {m : MethodId} {args : Array Value} {below : List Frame} {meth : Method} {c : Code} {D : va_G} {aC : Nat → ClassId} {ad : Nat → Nat} (hC : fCx p s m args c vwCl D aC TB ad (fFr ad TB) goodTs cX6_revisions RX6 2) (hr : meth.sig.returnType = some .int) (hk : meth.locks = false) (a1 : Int) (M : fMem) : GM l p e s m args below meth c D aC ad 2 1 21 0 0 [(0, .ref (ad 115)), (1, .int (fI a1))] [] M (dn_X6_revisions a1 M) := by
  unfold dn_X6_revisions
  refine g_iload_n hC 1 1 rfl dX6_revisions_0 rfl rfl ?_
  refine g_iconst hC 2 dX6_revisions_1 rfl ?_
  refine g_cS hC 5 2 [.int (fI a1), .int (fI 4)] [] (cn_X6_below l a1 4 _) rfl rfl gw_601 gw_603 gw_65 gw_602 (by decide +kernel) rfl ⟨Nat.le_of_ble_eq_true rfl, Nat.le_of_ble_eq_true rfl⟩ (Nat.le_of_ble_eq_true rfl) ⟨Nat.zero_le _, Nat.zero_le _⟩ dX6_revisions_2 rfl (fun v1 => .int (fI v1) :: []) (fun _ => rfl) (fun v1 M2 => ?_)
  refine g_if_eq hC 17 8 dX6_revisions_5 rfl rfl ?_ ?_
  · refine g_iconst hC 18 dX6_revisions_17 rfl ?_
    exact g_ireturn hC hr hk dX6_revisions_18
  · refine g_aload_n hC 0 9 rfl dX6_revisions_8 rfl rfl ?_
    refine g_getA hC 12 inX6 rfl 0 (by decide) gw_527 rfl tb_MD rfl dX6_revisions_9 rfl ?_
    refine g_iload_n hC 1 13 rfl dX6_revisions_12 rfl rfl ?_
    refine g_iald hC 14 tb_MD_1 (by decide) dX6_revisions_13 rfl (fun x3 => ?_)
    refine g_goto hC 18 dX6_revisions_14 rfl ?_
    exact g_ireturn hC hr hk dX6_revisions_18
theorem cn_X6_revisions (l : Launch) (a1 : Int) (M : fMem) : fMt l vwCl TB yX6_revisions cX6_revisions 2 (some .int) 1 21 0 (fun ad => [.ref (ad 115), .int (fI a1)]) M (dn_X6_revisions a1 M) :=
  fMt.of (by decide +kernel) (fun _ => Nat.le_of_ble_eq_true rfl) (fun p e s m args below meth c D aC ad hC hr hk => wk_X6_revisions hC hr hk a1 M)
def dn_X6_noRevision_J21  (a1 a2 : Int) (M : fMem) : fOp :=
  fRz 1 M
set_option maxRecDepth 100000 in
set_option maxHeartbeats 4000000 in
theorem wk_X6_noRevision_J21 {l : Launch} {p : Program} {e : Env} {s : State} {m : MethodId} {args : Array Value} {below : List Frame} {meth : Method} {c : Code} {D : va_G} {aC : Nat → ClassId} {ad : Nat → Nat} (hC : fCx p s m args c vwCl D aC TB ad (fFr ad TB) goodTs cX6_noRevision RX6 3) (hr : meth.sig.returnType = some .boolean) (hk : meth.locks = false) (a1 a2 : Int)  (M : fMem) : GM l p e s m args below meth c D aC ad 3 1 21 0 21 [(0, .ref (ad 115)), (1, .int (fI a1)), (2, .int (fI a2))] [] M (dn_X6_noRevision_J21 a1 a2 M) := by
  unfold dn_X6_noRevision_J21
  refine g_iconst hC 22 dX6_noRevision_21 rfl ?_
  refine g_goto hC 26 dX6_noRevision_22 rfl ?_
  exact g_zreturn hC hr hk dX6_noRevision_26
def dn_X6_noRevision (a1 : Int) (a2 : Int) (M : fMem) : fOp :=
  fCl (dn_X6_below a1 4 M) (fun v1 M2 => fEq v1 0 (dn_X6_noRevision_J21 a1 a2 M2) (fRd M2 116 4 a1 (fun x3 => fCl (dn_X6_below a2 x3 M2) (fun v4 M5 => fEq v4 0 (dn_X6_noRevision_J21 a1 a2 M5) (fRz 0 M5)))))
set_option maxRecDepth 100000 in
set_option maxHeartbeats 4000000 in
theorem wk_X6_noRevision {l : Launch} {p : Program} {e : Env} {s : State} {m : MethodId} {args : Array Value} {below : List Frame} {meth : Method} {c : Code} {D : va_G} {aC : Nat → ClassId} {ad : Nat → Nat} (hC : fCx p s m args c vwCl D aC TB ad (fFr ad TB) goodTs cX6_noRevision RX6 3) (hr : meth.sig.returnType = some .boolean) (hk : meth.locks = false) (a1 : Int) (a2 : Int) (M : fMem) : GM l p e s m args below meth c D aC ad 3 1 21 0 0 [(0, .ref (ad 115)), (1, .int (fI a1)), (2, .int (fI a2))] [] M (dn_X6_noRevision a1 a2 M) := by
  unfold dn_X6_noRevision
  refine g_iload_n hC 1 1 rfl dX6_noRevision_0 rfl rfl ?_
  refine g_iconst hC 2 dX6_noRevision_1 rfl ?_
  refine g_cS hC 5 2 [.int (fI a1), .int (fI 4)] [] (cn_X6_below l a1 4 _) rfl rfl gw_601 gw_603 gw_65 gw_602 (by decide +kernel) rfl ⟨Nat.le_of_ble_eq_true rfl, Nat.le_of_ble_eq_true rfl⟩ (Nat.le_of_ble_eq_true rfl) ⟨Nat.zero_le _, Nat.zero_le _⟩ dX6_noRevision_2 rfl (fun v1 => .int (fI v1) :: []) (fun _ => rfl) (fun v1 M2 => ?_)
  refine g_if_eq hC 21 8 dX6_noRevision_5 rfl rfl ?_ ?_
  · exact wk_X6_noRevision_J21 hC hr hk _ _ _
  · refine g_iload_n hC 2 9 rfl dX6_noRevision_8 rfl rfl ?_
    refine g_aload_n hC 0 10 rfl dX6_noRevision_9 rfl rfl ?_
    refine g_getA hC 13 inX6 rfl 0 (by decide) gw_527 rfl tb_MD rfl dX6_noRevision_10 rfl ?_
    refine g_iload_n hC 1 14 rfl dX6_noRevision_13 rfl rfl ?_
    refine g_iald hC 15 tb_MD_1 (by decide) dX6_noRevision_14 rfl (fun x3 => ?_)
    refine g_cS hC 18 2 [.int (fI a2), .int (fI x3)] [] (cn_X6_below l a2 x3 _) rfl rfl gw_601 gw_603 gw_65 gw_602 (by decide +kernel) rfl ⟨Nat.le_of_ble_eq_true rfl, Nat.le_of_ble_eq_true rfl⟩ (Nat.le_of_ble_eq_true rfl) ⟨Nat.zero_le _, Nat.zero_le _⟩ dX6_noRevision_15 rfl (fun v4 => .int (fI v4) :: []) (fun _ => rfl) (fun v4 M5 => ?_)
    refine g_if_ne hC 25 21 dX6_noRevision_18 rfl rfl ?_ ?_
    · refine g_iconst hC 26 dX6_noRevision_25 rfl ?_
      exact g_zreturn hC hr hk dX6_noRevision_26
    · exact wk_X6_noRevision_J21 hC hr hk _ _ _
theorem cn_X6_noRevision (l : Launch) (a1 : Int) (a2 : Int) (M : fMem) : fMt l vwCl TB yX6_noRevision cX6_noRevision 3 (some .boolean) 1 21 0 (fun ad => [.ref (ad 115), .int (fI a1), .int (fI a2)]) M (dn_X6_noRevision a1 a2 M) :=
  fMt.of (by decide +kernel) (fun _ => Nat.le_of_ble_eq_true rfl) (fun p e s m args below meth c D aC ad hC hr hk => wk_X6_noRevision hC hr hk a1 a2 M)
def dn_X6_parts_L5B  (a1 a2 : Int) (r : Int → Int → fMem → fOp) (a3 a4 : Int) (M : fMem) : fOp :=
  fRd M 119 96 ((24 * a1) + a4) (fun x1 => fLe x1 0 (some (a3, M)) (fRd M 119 96 ((24 * a1) + a4) (fun x2 => fRd M 122 24 ((6 * a1) + x2) (fun x3 => r (a3 + 2) x3 M))))
def dn_X6_parts_L5  (a1 a2 : Int) : Nat → Int → Int → fMem → fOp
  | 0, _, _, _ => none
  | n + 1, a3, a4, M => dn_X6_parts_L5B a1 a2 (fun a3 a4 M => dn_X6_parts_L5 a1 a2 n a3 a4 M) a3 a4 M
set_option maxRecDepth 100000 in
set_option maxHeartbeats 4000000 in
theorem wk_X6_parts_L5B {l : Launch} {p : Program} {e : Env} {s : State} {m : MethodId} {args : Array Value} {below : List Frame} {meth : Method} {c : Code} {D : va_G} {aC : Nat → ClassId} {ad : Nat → Nat} (hC : fCx p s m args c vwCl D aC TB ad (fFr ad TB) goodTs cX6_parts RX6 5) (hr : meth.sig.returnType = some .int) (hk : meth.locks = false) (a1 a2 : Int) (r : Int → Int → fMem → fOp) (hrc : ∀ (a3 a4 : Int) (M : fMem), GM l p e s m args below meth c D aC ad 5 0 0 0 5 [(0, .ref (ad 115)), (1, .int (fI a1)), (2, .int (fI a2)), (3, .int (fI a3)), (4, .int (fI a4))] [] M (r a3 a4 M)) (a3 a4 : Int) (M : fMem) : GM l p e s m args below meth c D aC ad 5 0 0 0 5 [(0, .ref (ad 115)), (1, .int (fI a1)), (2, .int (fI a2)), (3, .int (fI a3)), (4, .int (fI a4))] [] M (dn_X6_parts_L5B a1 a2 r a3 a4 M) := by
  unfold dn_X6_parts_L5B
  refine g_aload_n hC 0 6 rfl dX6_parts_5 rfl rfl ?_
  refine g_getA hC 9 inX6 rfl 3 (by decide) gw_530 rfl tb_MD rfl dX6_parts_6 rfl ?_
  refine g_bipush hC 11 dX6_parts_9 rfl (by decide +kernel) ?_
  refine g_iload_n hC 1 12 rfl dX6_parts_11 rfl rfl ?_
  refine g_imul hC 13 dX6_parts_12 rfl ?_
  refine g_iload hC 4 15 rfl dX6_parts_13 rfl ?_
  refine g_iadd hC 16 dX6_parts_15 rfl ?_
  refine g_iald hC 17 tb_MD_4 (by decide) dX6_parts_16 rfl (fun x1 => ?_)
  refine g_if_le hC 50 20 dX6_parts_17 rfl rfl ?_ ?_
  · refine g_iload_n hC 3 51 rfl dX6_parts_50 rfl rfl ?_
    exact g_ireturn hC hr hk dX6_parts_51
  · refine g_aload_n hC 0 21 rfl dX6_parts_20 rfl rfl ?_
    refine g_getA hC 24 inX6 rfl 6 (by decide) gw_533 rfl tb_MD rfl dX6_parts_21 rfl ?_
    refine g_bipush hC 26 dX6_parts_24 rfl (by decide +kernel) ?_
    refine g_iload_n hC 1 27 rfl dX6_parts_26 rfl rfl ?_
    refine g_imul hC 28 dX6_parts_27 rfl ?_
    refine g_aload_n hC 0 29 rfl dX6_parts_28 rfl rfl ?_
    refine g_getA hC 32 inX6 rfl 3 (by decide) gw_530 rfl tb_MD rfl dX6_parts_29 rfl ?_
    refine g_bipush hC 34 dX6_parts_32 rfl (by decide +kernel) ?_
    refine g_iload_n hC 1 35 rfl dX6_parts_34 rfl rfl ?_
    refine g_imul hC 36 dX6_parts_35 rfl ?_
    refine g_iload hC 4 38 rfl dX6_parts_36 rfl ?_
    refine g_iadd hC 39 dX6_parts_38 rfl ?_
    refine g_iald hC 40 tb_MD_4 (by decide) dX6_parts_39 rfl (fun x2 => ?_)
    refine g_iadd hC 41 dX6_parts_40 rfl ?_
    refine g_iald hC 42 tb_MD_7 (by decide) dX6_parts_41 rfl (fun x3 => ?_)
    refine g_istore hC 44 [(4, .int (fI x3)), (0, .ref (ad 115)), (1, .int (fI a1)), (2, .int (fI a2)), (3, .int (fI a3))] dX6_parts_42 (by decide) rfl rfl ?_
    refine g_iinc hC 4 47 [(3, .int (fI (a3 + 2))), (4, .int (fI x3)), (0, .ref (ad 115)), (1, .int (fI a1)), (2, .int (fI a2))] rfl dX6_parts_44 (by decide) rfl rfl ?_
    refine g_goto hC 5 dX6_parts_47 rfl ?_
    refine g_lv [2, 3, 4, 0, 1] rfl ?_
    exact hrc _ _ _
set_option maxRecDepth 100000 in
set_option maxHeartbeats 4000000 in
theorem wk_X6_parts_L5 {l : Launch} {p : Program} {e : Env} {s : State} {m : MethodId} {args : Array Value} {below : List Frame} {meth : Method} {c : Code} {D : va_G} {aC : Nat → ClassId} {ad : Nat → Nat} (hC : fCx p s m args c vwCl D aC TB ad (fFr ad TB) goodTs cX6_parts RX6 5) (hr : meth.sig.returnType = some .int) (hk : meth.locks = false) (a1 a2 : Int) (n : Nat) : ∀ (a3 a4 : Int) (M : fMem), GM l p e s m args below meth c D aC ad 5 0 0 0 5 [(0, .ref (ad 115)), (1, .int (fI a1)), (2, .int (fI a2)), (3, .int (fI a3)), (4, .int (fI a4))] [] M (dn_X6_parts_L5 a1 a2 n a3 a4 M) := by
  induction n with
  | zero => intro a3 a4 M; exact g_none
  | succ n ih => intro a3 a4 M; exact wk_X6_parts_L5B hC hr hk a1 a2 (fun a3 a4 M => dn_X6_parts_L5 a1 a2 n a3 a4 M) ih a3 a4 M
def dn_X6_parts (a1 : Int) (a2 : Int) (M : fMem) : fOp :=
  dn_X6_parts_L5 a1 a2 600 2 a2 M
set_option maxRecDepth 100000 in
set_option maxHeartbeats 4000000 in
theorem wk_X6_parts {l : Launch} {p : Program} {e : Env} {s : State} {m : MethodId} {args : Array Value} {below : List Frame} {meth : Method} {c : Code} {D : va_G} {aC : Nat → ClassId} {ad : Nat → Nat} (hC : fCx p s m args c vwCl D aC TB ad (fFr ad TB) goodTs cX6_parts RX6 5) (hr : meth.sig.returnType = some .int) (hk : meth.locks = false) (a1 : Int) (a2 : Int) (M : fMem) : GM l p e s m args below meth c D aC ad 5 0 0 0 0 [(0, .ref (ad 115)), (1, .int (fI a1)), (2, .int (fI a2))] [] M (dn_X6_parts a1 a2 M) := by
  unfold dn_X6_parts
  refine g_iconst hC 1 dX6_parts_0 rfl ?_
  refine g_istore_n hC 2 [(3, .int (fI 2)), (0, .ref (ad 115)), (1, .int (fI a1)), (2, .int (fI a2))] dX6_parts_1 rfl (by decide) rfl rfl ?_
  refine g_iload_n hC 3 3 rfl dX6_parts_2 rfl rfl ?_
  refine g_istore hC 5 [(4, .int (fI a2)), (3, .int (fI 2)), (0, .ref (ad 115)), (1, .int (fI a1)), (2, .int (fI a2))] dX6_parts_3 (by decide) rfl rfl ?_
  refine g_lv [2, 3, 4, 1, 0] rfl ?_
  refine wk_X6_parts_L5 hC hr hk _ _ 600 _ _ _
theorem cn_X6_parts (l : Launch) (a1 : Int) (a2 : Int) (M : fMem) : fMt l vwCl TB yX6_parts cX6_parts 5 (some .int) 0 0 0 (fun ad => [.ref (ad 115), .int (fI a1), .int (fI a2)]) M (dn_X6_parts a1 a2 M) :=
  fMt.of (by decide +kernel) (fun _ => Nat.le_of_ble_eq_true rfl) (fun p e s m args below meth c D aC ad hC hr hk => wk_X6_parts hC hr hk a1 a2 M)
def dn_X6_number_L34B  (a1 a2 a3 : Int) (r : Int → Int → fMem → fOp) (x72 : Int → Int → fMem → fOp) (a4 a5 : Int) (M : fMem) : fOp :=
  fLe (a4 - 2) a3 (x72 a4 a5 M) (fRd M 119 96 ((24 * a1) + a5) (fun x5 => fRd M 122 24 ((6 * a1) + x5) (fun x6 => r (a4 + (-2)) x6 M)))
def dn_X6_number_L34  (a1 a2 a3 : Int) (x72 : Int → Int → fMem → fOp) : Nat → Int → Int → fMem → fOp
  | 0, _, _, _ => none
  | n + 1, a4, a5, M => dn_X6_number_L34B a1 a2 a3 (fun a4 a5 M => dn_X6_number_L34 a1 a2 a3 x72 n a4 a5 M) x72 a4 a5 M
set_option maxRecDepth 100000 in
set_option maxHeartbeats 4000000 in
theorem wk_X6_number_L34B {l : Launch} {p : Program} {e : Env} {s : State} {m : MethodId} {args : Array Value} {below : List Frame} {meth : Method} {c : Code} {D : va_G} {aC : Nat → ClassId} {ad : Nat → Nat} (hC : fCx p s m args c vwCl D aC TB ad (fFr ad TB) goodTs cX6_number RX6 7) (hr : meth.sig.returnType = some .int) (hk : meth.locks = false) (a1 a2 a3 : Int) (r : Int → Int → fMem → fOp) (hrc : ∀ (a4 a5 : Int) (M : fMem), GM l p e s m args below meth c D aC ad 7 2 43 0 34 [(0, .ref (ad 115)), (1, .int (fI a1)), (2, .int (fI a2)), (3, .int (fI a3)), (4, .int (fI a4)), (5, .int (fI a5))] [] M (r a4 a5 M)) (x72 : Int → Int → fMem → fOp) (hx72 : ∀ (y4 y5 : Int) (M : fMem), GM l p e s m args below meth c D aC ad 7 2 43 0 72 [(0, .ref (ad 115)), (1, .int (fI a1)), (2, .int (fI a2)), (3, .int (fI a3)), (4, .int (fI y4)), (5, .int (fI y5))] [] M (x72 y4 y5 M)) (a4 a5 : Int) (M : fMem) : GM l p e s m args below meth c D aC ad 7 2 43 0 34 [(0, .ref (ad 115)), (1, .int (fI a1)), (2, .int (fI a2)), (3, .int (fI a3)), (4, .int (fI a4)), (5, .int (fI a5))] [] M (dn_X6_number_L34B a1 a2 a3 r x72 a4 a5 M) := by
  unfold dn_X6_number_L34B
  refine g_iload hC 4 36 rfl dX6_number_34 rfl ?_
  refine g_iconst hC 37 dX6_number_36 rfl ?_
  refine g_isub hC 38 dX6_number_37 rfl ?_
  refine g_iload_n hC 3 39 rfl dX6_number_38 rfl rfl ?_
  refine g_icmp_le hC 72 42 dX6_number_39 rfl rfl ?_ ?_
  · exact hx72 _ _ _
  · refine g_aload_n hC 0 43 rfl dX6_number_42 rfl rfl ?_
    refine g_getA hC 46 inX6 rfl 6 (by decide) gw_533 rfl tb_MD rfl dX6_number_43 rfl ?_
    refine g_bipush hC 48 dX6_number_46 rfl (by decide +kernel) ?_
    refine g_iload_n hC 1 49 rfl dX6_number_48 rfl rfl ?_
    refine g_imul hC 50 dX6_number_49 rfl ?_
    refine g_aload_n hC 0 51 rfl dX6_number_50 rfl rfl ?_
    refine g_getA hC 54 inX6 rfl 3 (by decide) gw_530 rfl tb_MD rfl dX6_number_51 rfl ?_
    refine g_bipush hC 56 dX6_number_54 rfl (by decide +kernel) ?_
    refine g_iload_n hC 1 57 rfl dX6_number_56 rfl rfl ?_
    refine g_imul hC 58 dX6_number_57 rfl ?_
    refine g_iload hC 5 60 rfl dX6_number_58 rfl ?_
    refine g_iadd hC 61 dX6_number_60 rfl ?_
    refine g_iald hC 62 tb_MD_4 (by decide) dX6_number_61 rfl (fun x5 => ?_)
    refine g_iadd hC 63 dX6_number_62 rfl ?_
    refine g_iald hC 64 tb_MD_7 (by decide) dX6_number_63 rfl (fun x6 => ?_)
    refine g_istore hC 66 [(5, .int (fI x6)), (0, .ref (ad 115)), (1, .int (fI a1)), (2, .int (fI a2)), (3, .int (fI a3)), (4, .int (fI a4))] dX6_number_64 (by decide) rfl rfl ?_
    refine g_iinc hC 5 69 [(4, .int (fI (a4 + (-2)))), (5, .int (fI x6)), (0, .ref (ad 115)), (1, .int (fI a1)), (2, .int (fI a2)), (3, .int (fI a3))] rfl dX6_number_66 (by decide) rfl rfl ?_
    refine g_goto hC 34 dX6_number_69 rfl ?_
    refine g_lv [2, 3, 4, 5, 0, 1] rfl ?_
    exact hrc _ _ _
set_option maxRecDepth 100000 in
set_option maxHeartbeats 4000000 in
theorem wk_X6_number_L34 {l : Launch} {p : Program} {e : Env} {s : State} {m : MethodId} {args : Array Value} {below : List Frame} {meth : Method} {c : Code} {D : va_G} {aC : Nat → ClassId} {ad : Nat → Nat} (hC : fCx p s m args c vwCl D aC TB ad (fFr ad TB) goodTs cX6_number RX6 7) (hr : meth.sig.returnType = some .int) (hk : meth.locks = false) (a1 a2 a3 : Int) (x72 : Int → Int → fMem → fOp) (hx72 : ∀ (y4 y5 : Int) (M : fMem), GM l p e s m args below meth c D aC ad 7 2 43 0 72 [(0, .ref (ad 115)), (1, .int (fI a1)), (2, .int (fI a2)), (3, .int (fI a3)), (4, .int (fI y4)), (5, .int (fI y5))] [] M (x72 y4 y5 M)) (n : Nat) : ∀ (a4 a5 : Int) (M : fMem), GM l p e s m args below meth c D aC ad 7 2 43 0 34 [(0, .ref (ad 115)), (1, .int (fI a1)), (2, .int (fI a2)), (3, .int (fI a3)), (4, .int (fI a4)), (5, .int (fI a5))] [] M (dn_X6_number_L34 a1 a2 a3 x72 n a4 a5 M) := by
  induction n with
  | zero => intro a4 a5 M; exact g_none
  | succ n ih => intro a4 a5 M; exact wk_X6_number_L34B hC hr hk a1 a2 a3 (fun a4 a5 M => dn_X6_number_L34 a1 a2 a3 x72 n a4 a5 M) ih x72 hx72 a4 a5 M
def dn_X6_number (a1 : Int) (a2 : Int) (a3 : Int) (M : fMem) : fOp :=
  fCl (dn_X6_noRevision a1 a2 M) (fun v1 M2 => fEq v1 0 (fLe 0 a3 (fCl (dn_X6_parts a1 a2 M2) (fun v3 M4 => fLt a3 v3 (dn_X6_number_L34 a1 a2 a3 (fun y7 y8 M9 => fRd M9 119 96 ((24 * a1) + y8) (fun x10 => fRmI a3 2 (fun x11 => fEq x11 1 (fRd M9 120 96 ((24 * a1) + y8) (fun x13 => some (x13, M9))) (fEq x10 0 (some (1, M9)) (fRd M9 123 24 ((6 * a1) + x10) (fun x12 => some (x12, M9))))))) 600 v3 a2 M4) (some (0, M4)))) (some ((-1), M2))) (some ((-1), M2)))
set_option maxRecDepth 100000 in
set_option maxHeartbeats 4000000 in
theorem wk_X6_number {l : Launch} {p : Program} {e : Env} {s : State} {m : MethodId} {args : Array Value} {below : List Frame} {meth : Method} {c : Code} {D : va_G} {aC : Nat → ClassId} {ad : Nat → Nat} (hC : fCx p s m args c vwCl D aC TB ad (fFr ad TB) goodTs cX6_number RX6 7) (hr : meth.sig.returnType = some .int) (hk : meth.locks = false) (a1 : Int) (a2 : Int) (a3 : Int) (M : fMem) : GM l p e s m args below meth c D aC ad 7 2 43 0 0 [(0, .ref (ad 115)), (1, .int (fI a1)), (2, .int (fI a2)), (3, .int (fI a3))] [] M (dn_X6_number a1 a2 a3 M) := by
  unfold dn_X6_number
  refine g_aload_n hC 0 1 rfl dX6_number_0 rfl rfl ?_
  refine g_iload_n hC 1 2 rfl dX6_number_1 rfl rfl ?_
  refine g_iload_n hC 2 3 rfl dX6_number_2 rfl rfl ?_
  refine g_cV hC 6 2 [.int (fI a1), .int (fI a2)] [] (cn_X6_noRevision l a1 a2 _) rfl rfl tb_MD rfl gw_746 gw_749 gw_65 gw_748 gw_54 (by decide +kernel) rfl ⟨Nat.le_of_ble_eq_true rfl, Nat.le_of_ble_eq_true rfl⟩ (Nat.le_of_ble_eq_true rfl) ⟨Nat.zero_le _, Nat.zero_le _⟩ dX6_number_3 rfl (fun v1 => .int (fI v1) :: []) (fun _ => rfl) (fun v1 M2 => ?_)
  refine g_if_ne hC 13 9 dX6_number_6 rfl rfl ?_ ?_
  · refine g_iconst hC 14 dX6_number_13 rfl ?_
    exact g_ireturn hC hr hk dX6_number_14
  · refine g_iload_n hC 3 10 rfl dX6_number_9 rfl rfl ?_
    refine g_if_ge hC 15 13 dX6_number_10 rfl rfl ?_ ?_
    · refine g_aload_n hC 0 16 rfl dX6_number_15 rfl rfl ?_
      refine g_iload_n hC 1 17 rfl dX6_number_16 rfl rfl ?_
      refine g_iload_n hC 2 18 rfl dX6_number_17 rfl rfl ?_
      refine g_cV hC 21 2 [.int (fI a1), .int (fI a2)] [] (cn_X6_parts l a1 a2 _) rfl rfl tb_MD rfl gw_750 gw_753 gw_65 gw_752 gw_55 (by decide +kernel) rfl ⟨Nat.le_of_ble_eq_true rfl, Nat.le_of_ble_eq_true rfl⟩ (Nat.le_of_ble_eq_true rfl) ⟨Nat.zero_le _, Nat.zero_le _⟩ dX6_number_18 rfl (fun v3 => .int (fI v3) :: []) (fun _ => rfl) (fun v3 M4 => ?_)
      refine g_istore hC 23 [(4, .int (fI v3)), (0, .ref (ad 115)), (1, .int (fI a1)), (2, .int (fI a2)), (3, .int (fI a3))] dX6_number_21 (by decide) rfl rfl ?_
      refine g_iload_n hC 4 24 rfl dX6_number_23 rfl rfl ?_
      refine g_iload hC 0 26 rfl dX6_number_24 rfl ?_
      refine g_icmp_lt hC 31 29 dX6_number_26 rfl rfl ?_ ?_
      · refine g_iload_n hC 3 32 rfl dX6_number_31 rfl rfl ?_
        refine g_istore hC 34 [(5, .int (fI a2)), (4, .int (fI v3)), (0, .ref (ad 115)), (1, .int (fI a1)), (2, .int (fI a2)), (3, .int (fI a3))] dX6_number_32 (by decide) rfl rfl ?_
        refine g_lv [2, 3, 4, 5, 1, 0] rfl ?_
        refine wk_X6_number_L34 hC hr hk _ _ _ _ (fun y7 y8 M9 => ?_) 600 _ _ _
        · refine g_aload_n hC 0 73 rfl dX6_number_72 rfl rfl ?_
          refine g_getA hC 76 inX6 rfl 3 (by decide) gw_530 rfl tb_MD rfl dX6_number_73 rfl ?_
          refine g_bipush hC 78 dX6_number_76 rfl (by decide +kernel) ?_
          refine g_iload_n hC 1 79 rfl dX6_number_78 rfl rfl ?_
          refine g_imul hC 80 dX6_number_79 rfl ?_
          refine g_iload hC 5 82 rfl dX6_number_80 rfl ?_
          refine g_iadd hC 83 dX6_number_82 rfl ?_
          refine g_iald hC 84 tb_MD_4 (by decide) dX6_number_83 rfl (fun x10 => ?_)
          refine g_istore hC 86 [(6, .int (fI x10)), (0, .ref (ad 115)), (1, .int (fI a1)), (2, .int (fI a2)), (3, .int (fI a3)), (4, .int (fI y7)), (5, .int (fI y8))] dX6_number_84 (by decide) rfl rfl ?_
          refine g_iload_n hC 4 87 rfl dX6_number_86 rfl rfl ?_
          refine g_iconst hC 88 dX6_number_87 rfl ?_
          refine g_irem hC 89 dX6_number_88 rfl (fun x11 => ?_)
          refine g_iconst hC 90 dX6_number_89 rfl ?_
          refine g_icmp_ne hC 108 93 dX6_number_90 rfl rfl ?_ ?_
          · refine g_iload hC 0 110 rfl dX6_number_108 rfl ?_
            refine g_if_ne hC 117 113 dX6_number_110 rfl rfl ?_ ?_
            · refine g_aload_n hC 1 118 rfl dX6_number_117 rfl rfl ?_
              refine g_getA hC 121 inX6 rfl 7 (by decide) gw_534 rfl tb_MD rfl dX6_number_118 rfl ?_
              refine g_bipush hC 123 dX6_number_121 rfl (by decide +kernel) ?_
              refine g_iload_n hC 2 124 rfl dX6_number_123 rfl rfl ?_
              refine g_imul hC 125 dX6_number_124 rfl ?_
              refine g_iload hC 0 127 rfl dX6_number_125 rfl ?_
              refine g_iadd hC 128 dX6_number_127 rfl ?_
              refine g_iald hC 129 tb_MD_8 (by decide) dX6_number_128 rfl (fun x12 => ?_)
              exact g_ireturn hC hr hk dX6_number_129
            · refine g_iconst hC 114 dX6_number_113 rfl ?_
              refine g_goto hC 129 dX6_number_114 rfl ?_
              exact g_ireturn hC hr hk dX6_number_129
          · refine g_aload_n hC 1 94 rfl dX6_number_93 rfl rfl ?_
            refine g_getA hC 97 inX6 rfl 4 (by decide) gw_531 rfl tb_MD rfl dX6_number_94 rfl ?_
            refine g_bipush hC 99 dX6_number_97 rfl (by decide +kernel) ?_
            refine g_iload_n hC 2 100 rfl dX6_number_99 rfl rfl ?_
            refine g_imul hC 101 dX6_number_100 rfl ?_
            refine g_iload hC 6 103 rfl dX6_number_101 rfl ?_
            refine g_iadd hC 104 dX6_number_103 rfl ?_
            refine g_iald hC 105 tb_MD_5 (by decide) dX6_number_104 rfl (fun x13 => ?_)
            refine g_goto hC 129 dX6_number_105 rfl ?_
            exact g_ireturn hC hr hk dX6_number_129
      · refine g_iconst hC 30 dX6_number_29 rfl ?_
        exact g_ireturn hC hr hk dX6_number_30
    · refine g_iconst hC 14 dX6_number_13 rfl ?_
      exact g_ireturn hC hr hk dX6_number_14
theorem cn_X6_number (l : Launch) (a1 : Int) (a2 : Int) (a3 : Int) (M : fMem) : fMt l vwCl TB yX6_number cX6_number 7 (some .int) 2 43 0 (fun ad => [.ref (ad 115), .int (fI a1), .int (fI a2), .int (fI a3)]) M (dn_X6_number a1 a2 a3 M) :=
  fMt.of (by decide +kernel) (fun _ => Nat.le_of_ble_eq_true rfl) (fun p e s m args below meth c D aC ad hC hr hk => wk_X6_number hC hr hk a1 a2 a3 M)
def dn_X6_content (a1 : Int) (a2 : Int) (M : fMem) : fOp :=
  fCl (dn_X6_noRevision a1 a2 M) (fun v1 M2 => fEq v1 0 (fRd M2 117 96 ((24 * a1) + a2) (fun x3 => some (x3, M2))) (some ((-1), M2)))
set_option maxRecDepth 100000 in
set_option maxHeartbeats 4000000 in
theorem wk_X6_content {l : Launch} {p : Program} {e : Env} {s : State} {m : MethodId} {args : Array Value} {below : List Frame} {meth : Method} {c : Code} {D : va_G} {aC : Nat → ClassId} {ad : Nat → Nat} (hC : fCx p s m args c vwCl D aC TB ad (fFr ad TB) goodTs cX6_content RX6 3) (hr : meth.sig.returnType = some .long) (hk : meth.locks = false) (a1 : Int) (a2 : Int) (M : fMem) : GM l p e s m args below meth c D aC ad 3 2 43 1 0 [(0, .ref (ad 115)), (1, .int (fI a1)), (2, .int (fI a2))] [] M (dn_X6_content a1 a2 M) := by
  unfold dn_X6_content
  refine g_aload_n hC 0 1 rfl dX6_content_0 rfl rfl ?_
  refine g_iload_n hC 1 2 rfl dX6_content_1 rfl rfl ?_
  refine g_iload_n hC 2 3 rfl dX6_content_2 rfl rfl ?_
  refine g_cV hC 6 2 [.int (fI a1), .int (fI a2)] [] (cn_X6_noRevision l a1 a2 _) rfl rfl tb_MD rfl gw_746 gw_749 gw_65 gw_748 gw_54 (by decide +kernel) rfl ⟨Nat.le_of_ble_eq_true rfl, Nat.le_of_ble_eq_true rfl⟩ (Nat.le_of_ble_eq_true rfl) ⟨Nat.zero_le _, Nat.zero_le _⟩ dX6_content_3 rfl (fun v1 => .int (fI v1) :: []) (fun _ => rfl) (fun v1 M2 => ?_)
  refine g_if_eq hC 15 9 dX6_content_6 rfl rfl ?_ ?_
  · refine g_aload_n hC 0 16 rfl dX6_content_15 rfl rfl ?_
    refine g_getA hC 19 inX6 rfl 1 (by decide) gw_528 rfl tb_MD rfl dX6_content_16 rfl ?_
    refine g_bipush hC 21 dX6_content_19 rfl (by decide +kernel) ?_
    refine g_iload_n hC 1 22 rfl dX6_content_21 rfl rfl ?_
    refine g_imul hC 23 dX6_content_22 rfl ?_
    refine g_iload_n hC 2 24 rfl dX6_content_23 rfl rfl ?_
    refine g_iadd hC 25 dX6_content_24 rfl ?_
    refine g_lald hC 26 tb_MD_2 (by decide) dX6_content_25 rfl (fun x3 => ?_)
    exact g_lreturn hC hr hk dX6_content_26
  · refine g_ldc2 hC (-1) 12 gw_729 dX6_content_9 rfl ?_
    refine g_goto hC 26 dX6_content_12 rfl ?_
    exact g_lreturn hC hr hk dX6_content_26
theorem cn_X6_content (l : Launch) (a1 : Int) (a2 : Int) (M : fMem) : fMt l vwCl TB yX6_content cX6_content 3 (some .long) 2 43 1 (fun ad => [.ref (ad 115), .int (fI a1), .int (fI a2)]) M (dn_X6_content a1 a2 M) :=
  fMt.of (by decide +kernel) (fun _ => Nat.le_of_ble_eq_true rfl) (fun p e s m args below meth c D aC ad hC hr hk => wk_X6_content hC hr hk a1 a2 M)
def dn_X6_dead (a1 : Int) (a2 : Int) (M : fMem) : fOp :=
  fCl (dn_X6_noRevision a1 a2 M) (fun v1 M2 => fEq v1 0 (fRd M2 118 96 ((24 * a1) + a2) (fun x3 => fEq x3 0 (fRz 0 M2) (fRz 1 M2))) (fRz 0 M2))
set_option maxRecDepth 100000 in
set_option maxHeartbeats 4000000 in
theorem wk_X6_dead {l : Launch} {p : Program} {e : Env} {s : State} {m : MethodId} {args : Array Value} {below : List Frame} {meth : Method} {c : Code} {D : va_G} {aC : Nat → ClassId} {ad : Nat → Nat} (hC : fCx p s m args c vwCl D aC TB ad (fFr ad TB) goodTs cX6_dead RX6 3) (hr : meth.sig.returnType = some .boolean) (hk : meth.locks = false) (a1 : Int) (a2 : Int) (M : fMem) : GM l p e s m args below meth c D aC ad 3 2 43 0 0 [(0, .ref (ad 115)), (1, .int (fI a1)), (2, .int (fI a2))] [] M (dn_X6_dead a1 a2 M) := by
  unfold dn_X6_dead
  refine g_aload_n hC 0 1 rfl dX6_dead_0 rfl rfl ?_
  refine g_iload_n hC 1 2 rfl dX6_dead_1 rfl rfl ?_
  refine g_iload_n hC 2 3 rfl dX6_dead_2 rfl rfl ?_
  refine g_cV hC 6 2 [.int (fI a1), .int (fI a2)] [] (cn_X6_noRevision l a1 a2 _) rfl rfl tb_MD rfl gw_746 gw_749 gw_65 gw_748 gw_54 (by decide +kernel) rfl ⟨Nat.le_of_ble_eq_true rfl, Nat.le_of_ble_eq_true rfl⟩ (Nat.le_of_ble_eq_true rfl) ⟨Nat.zero_le _, Nat.zero_le _⟩ dX6_dead_3 rfl (fun v1 => .int (fI v1) :: []) (fun _ => rfl) (fun v1 M2 => ?_)
  refine g_if_ne hC 27 9 dX6_dead_6 rfl rfl ?_ ?_
  · refine g_iconst hC 28 dX6_dead_27 rfl ?_
    exact g_zreturn hC hr hk dX6_dead_28
  · refine g_aload_n hC 0 10 rfl dX6_dead_9 rfl rfl ?_
    refine g_getA hC 13 inX6 rfl 2 (by decide) gw_529 rfl tb_MD rfl dX6_dead_10 rfl ?_
    refine g_bipush hC 15 dX6_dead_13 rfl (by decide +kernel) ?_
    refine g_iload_n hC 1 16 rfl dX6_dead_15 rfl rfl ?_
    refine g_imul hC 17 dX6_dead_16 rfl ?_
    refine g_iload_n hC 2 18 rfl dX6_dead_17 rfl rfl ?_
    refine g_iadd hC 19 dX6_dead_18 rfl ?_
    refine g_zald hC 20 tb_MD_3 (by decide) dX6_dead_19 rfl (fun x3 => ?_)
    refine g_if_eq hC 27 23 dX6_dead_20 rfl rfl ?_ ?_
    · refine g_iconst hC 28 dX6_dead_27 rfl ?_
      exact g_zreturn hC hr hk dX6_dead_28
    · refine g_iconst hC 24 dX6_dead_23 rfl ?_
      refine g_goto hC 28 dX6_dead_24 rfl ?_
      exact g_zreturn hC hr hk dX6_dead_28
theorem cn_X6_dead (l : Launch) (a1 : Int) (a2 : Int) (M : fMem) : fMt l vwCl TB yX6_dead cX6_dead 3 (some .boolean) 2 43 0 (fun ad => [.ref (ad 115), .int (fI a1), .int (fI a2)]) M (dn_X6_dead a1 a2 M) :=
  fMt.of (by decide +kernel) (fun _ => Nat.le_of_ble_eq_true rfl) (fun p e s m args below meth c D aC ad hC hr hk => wk_X6_dead hC hr hk a1 a2 M)
def dn_X6_revisionAt_J49  (r : Int → fMem → fOp) (a1 a2 a3 a4 : Int) (M : fMem) : fOp :=
  r (a4 + 1) M
set_option maxRecDepth 100000 in
set_option maxHeartbeats 4000000 in
theorem wk_X6_revisionAt_J49 {l : Launch} {p : Program} {e : Env} {s : State} {m : MethodId} {args : Array Value} {below : List Frame} {meth : Method} {c : Code} {D : va_G} {aC : Nat → ClassId} {ad : Nat → Nat} (hC : fCx p s m args c vwCl D aC TB ad (fFr ad TB) goodTs cX6_revisionAt RX6 5) (hr : meth.sig.returnType = some .int) (hk : meth.locks = false) (a1 a2 a3 a4 : Int)  (r : Int → fMem → fOp) (hrc : ∀ (z4 : Int) (M : fMem), GM l p e s m args below meth c D aC ad 5 0 0 0 3 [(0, .ref (ad 115)), (1, .int (fI a1)), (2, .int (fI a2)), (3, .int (fI a3)), (4, .int (fI z4))] [] M (r z4 M)) (M : fMem) : GM l p e s m args below meth c D aC ad 5 0 0 0 49 [(0, .ref (ad 115)), (1, .int (fI a1)), (2, .int (fI a2)), (3, .int (fI a3)), (4, .int (fI a4))] [] M (dn_X6_revisionAt_J49 r a1 a2 a3 a4 M) := by
  unfold dn_X6_revisionAt_J49
  refine g_iinc hC 4 52 [(4, .int (fI (a4 + 1))), (0, .ref (ad 115)), (1, .int (fI a1)), (2, .int (fI a2)), (3, .int (fI a3))] rfl dX6_revisionAt_49 (by decide) rfl rfl ?_
  refine g_goto hC 3 dX6_revisionAt_52 rfl ?_
  refine g_lv [1, 2, 3, 4, 0] rfl ?_
  exact hrc _ _
def dn_X6_revisionAt_L3B  (a1 a2 a3 : Int) (r : Int → fMem → fOp) (a4 : Int) (M : fMem) : fOp :=
  fRd M 116 4 a1 (fun x1 => fLe x1 a4 (some ((-1), M)) (fRd M 119 96 ((24 * a1) + a4) (fun x2 => fEq x2 a2 (fRd M 120 96 ((24 * a1) + a4) (fun x3 => fEq x3 a3 (some (a4, M)) (dn_X6_revisionAt_J49 r a1 a2 a3 a4 M))) (dn_X6_revisionAt_J49 r a1 a2 a3 a4 M))))
def dn_X6_revisionAt_L3  (a1 a2 a3 : Int) : Nat → Int → fMem → fOp
  | 0, _, _ => none
  | n + 1, a4, M => dn_X6_revisionAt_L3B a1 a2 a3 (fun a4 M => dn_X6_revisionAt_L3 a1 a2 a3 n a4 M) a4 M
set_option maxRecDepth 100000 in
set_option maxHeartbeats 4000000 in
theorem wk_X6_revisionAt_L3B {l : Launch} {p : Program} {e : Env} {s : State} {m : MethodId} {args : Array Value} {below : List Frame} {meth : Method} {c : Code} {D : va_G} {aC : Nat → ClassId} {ad : Nat → Nat} (hC : fCx p s m args c vwCl D aC TB ad (fFr ad TB) goodTs cX6_revisionAt RX6 5) (hr : meth.sig.returnType = some .int) (hk : meth.locks = false) (a1 a2 a3 : Int) (r : Int → fMem → fOp) (hrc : ∀ (a4 : Int) (M : fMem), GM l p e s m args below meth c D aC ad 5 0 0 0 3 [(0, .ref (ad 115)), (1, .int (fI a1)), (2, .int (fI a2)), (3, .int (fI a3)), (4, .int (fI a4))] [] M (r a4 M)) (a4 : Int) (M : fMem) : GM l p e s m args below meth c D aC ad 5 0 0 0 3 [(0, .ref (ad 115)), (1, .int (fI a1)), (2, .int (fI a2)), (3, .int (fI a3)), (4, .int (fI a4))] [] M (dn_X6_revisionAt_L3B a1 a2 a3 r a4 M) := by
  unfold dn_X6_revisionAt_L3B
  refine g_iload hC 4 5 rfl dX6_revisionAt_3 rfl ?_
  refine g_aload_n hC 0 6 rfl dX6_revisionAt_5 rfl rfl ?_
  refine g_getA hC 9 inX6 rfl 0 (by decide) gw_527 rfl tb_MD rfl dX6_revisionAt_6 rfl ?_
  refine g_iload_n hC 1 10 rfl dX6_revisionAt_9 rfl rfl ?_
  refine g_iald hC 11 tb_MD_1 (by decide) dX6_revisionAt_10 rfl (fun x1 => ?_)
  refine g_icmp_ge hC 55 14 dX6_revisionAt_11 rfl rfl ?_ ?_
  · refine g_iconst hC 56 dX6_revisionAt_55 rfl ?_
    exact g_ireturn hC hr hk dX6_revisionAt_56
  · refine g_aload_n hC 0 15 rfl dX6_revisionAt_14 rfl rfl ?_
    refine g_getA hC 18 inX6 rfl 3 (by decide) gw_530 rfl tb_MD rfl dX6_revisionAt_15 rfl ?_
    refine g_bipush hC 20 dX6_revisionAt_18 rfl (by decide +kernel) ?_
    refine g_iload_n hC 1 21 rfl dX6_revisionAt_20 rfl rfl ?_
    refine g_imul hC 22 dX6_revisionAt_21 rfl ?_
    refine g_iload hC 4 24 rfl dX6_revisionAt_22 rfl ?_
    refine g_iadd hC 25 dX6_revisionAt_24 rfl ?_
    refine g_iald hC 26 tb_MD_4 (by decide) dX6_revisionAt_25 rfl (fun x2 => ?_)
    refine g_iload_n hC 2 27 rfl dX6_revisionAt_26 rfl rfl ?_
    refine g_icmp_ne hC 49 30 dX6_revisionAt_27 rfl rfl ?_ ?_
    · exact wk_X6_revisionAt_J49 hC hr hk _ _ _ _ _ hrc _
    · refine g_aload_n hC 0 31 rfl dX6_revisionAt_30 rfl rfl ?_
      refine g_getA hC 34 inX6 rfl 4 (by decide) gw_531 rfl tb_MD rfl dX6_revisionAt_31 rfl ?_
      refine g_bipush hC 36 dX6_revisionAt_34 rfl (by decide +kernel) ?_
      refine g_iload_n hC 1 37 rfl dX6_revisionAt_36 rfl rfl ?_
      refine g_imul hC 38 dX6_revisionAt_37 rfl ?_
      refine g_iload hC 4 40 rfl dX6_revisionAt_38 rfl ?_
      refine g_iadd hC 41 dX6_revisionAt_40 rfl ?_
      refine g_iald hC 42 tb_MD_5 (by decide) dX6_revisionAt_41 rfl (fun x3 => ?_)
      refine g_iload_n hC 3 43 rfl dX6_revisionAt_42 rfl rfl ?_
      refine g_icmp_ne hC 49 46 dX6_revisionAt_43 rfl rfl ?_ ?_
      · exact wk_X6_revisionAt_J49 hC hr hk _ _ _ _ _ hrc _
      · refine g_iload hC 4 48 rfl dX6_revisionAt_46 rfl ?_
        exact g_ireturn hC hr hk dX6_revisionAt_48
set_option maxRecDepth 100000 in
set_option maxHeartbeats 4000000 in
theorem wk_X6_revisionAt_L3 {l : Launch} {p : Program} {e : Env} {s : State} {m : MethodId} {args : Array Value} {below : List Frame} {meth : Method} {c : Code} {D : va_G} {aC : Nat → ClassId} {ad : Nat → Nat} (hC : fCx p s m args c vwCl D aC TB ad (fFr ad TB) goodTs cX6_revisionAt RX6 5) (hr : meth.sig.returnType = some .int) (hk : meth.locks = false) (a1 a2 a3 : Int) (n : Nat) : ∀ (a4 : Int) (M : fMem), GM l p e s m args below meth c D aC ad 5 0 0 0 3 [(0, .ref (ad 115)), (1, .int (fI a1)), (2, .int (fI a2)), (3, .int (fI a3)), (4, .int (fI a4))] [] M (dn_X6_revisionAt_L3 a1 a2 a3 n a4 M) := by
  induction n with
  | zero => intro a4 M; exact g_none
  | succ n ih => intro a4 M; exact wk_X6_revisionAt_L3B hC hr hk a1 a2 a3 (fun a4 M => dn_X6_revisionAt_L3 a1 a2 a3 n a4 M) ih a4 M
def dn_X6_revisionAt (a1 : Int) (a2 : Int) (a3 : Int) (M : fMem) : fOp :=
  dn_X6_revisionAt_L3 a1 a2 a3 600 0 M
set_option maxRecDepth 100000 in
set_option maxHeartbeats 4000000 in
theorem wk_X6_revisionAt {l : Launch} {p : Program} {e : Env} {s : State} {m : MethodId} {args : Array Value} {below : List Frame} {meth : Method} {c : Code} {D : va_G} {aC : Nat → ClassId} {ad : Nat → Nat} (hC : fCx p s m args c vwCl D aC TB ad (fFr ad TB) goodTs cX6_revisionAt RX6 5) (hr : meth.sig.returnType = some .int) (hk : meth.locks = false) (a1 : Int) (a2 : Int) (a3 : Int) (M : fMem) : GM l p e s m args below meth c D aC ad 5 0 0 0 0 [(0, .ref (ad 115)), (1, .int (fI a1)), (2, .int (fI a2)), (3, .int (fI a3))] [] M (dn_X6_revisionAt a1 a2 a3 M) := by
  unfold dn_X6_revisionAt
  refine g_iconst hC 1 dX6_revisionAt_0 rfl ?_
  refine g_istore hC 3 [(4, .int (fI 0)), (0, .ref (ad 115)), (1, .int (fI a1)), (2, .int (fI a2)), (3, .int (fI a3))] dX6_revisionAt_1 (by decide) rfl rfl ?_
  refine g_lv [1, 2, 3, 4, 0] rfl ?_
  refine wk_X6_revisionAt_L3 hC hr hk _ _ _ 600 _ _
theorem cn_X6_revisionAt (l : Launch) (a1 : Int) (a2 : Int) (a3 : Int) (M : fMem) : fMt l vwCl TB yX6_revisionAt cX6_revisionAt 5 (some .int) 0 0 0 (fun ad => [.ref (ad 115), .int (fI a1), .int (fI a2), .int (fI a3)]) M (dn_X6_revisionAt a1 a2 a3 M) :=
  fMt.of (by decide +kernel) (fun _ => Nat.le_of_ble_eq_true rfl) (fun p e s m args below meth c D aC ad hC hr hk => wk_X6_revisionAt hC hr hk a1 a2 a3 M)
def dn_X6_difference (a1 : Int) (a3 : Int) (M : fMem) : fOp :=
  fCl (dn_X6_fill a1 a3 M) (fun _ M2 => fCl (dn_X6_size a1 M2) (fun v3 M4 => fCl (dn_X6_size a3 M4) (fun v5 M6 => fRd M6 132 169 0 (fun x7 => some ((v3 + v5) - (2 * x7), M6)))))
set_option maxRecDepth 100000 in
set_option maxHeartbeats 4000000 in
theorem wk_X6_difference {l : Launch} {p : Program} {e : Env} {s : State} {m : MethodId} {args : Array Value} {below : List Frame} {meth : Method} {c : Code} {D : va_G} {aC : Nat → ClassId} {ad : Nat → Nat} (hC : fCx p s m args c vwCl D aC TB ad (fFr ad TB) goodTs cX6_difference RX6 5) (hr : meth.sig.returnType = some .int) (hk : meth.locks = false) (a1 : Int) (a3 : Int) (M : fMem) : GM l p e s m args below meth c D aC ad 5 3 75 0 0 [(0, .ref (ad 115)), (1, .long (fL a1)), (3, .long (fL a3))] [] M (dn_X6_difference a1 a3 M) := by
  unfold dn_X6_difference
  refine g_aload_n hC 0 1 rfl dX6_difference_0 rfl rfl ?_
  refine g_lload_n hC 1 2 rfl dX6_difference_1 rfl rfl ?_
  refine g_lload_n hC 2 3 rfl dX6_difference_2 rfl rfl ?_
  refine g_cV hC 6 2 [.long (fL a1), .long (fL a3)] [] (cn_X6_fill l a1 a3 _) rfl rfl tb_MD rfl gw_686 gw_689 gw_65 gw_688 gw_49 (by decide +kernel) rfl ⟨Nat.le_of_ble_eq_true rfl, Nat.le_of_ble_eq_true rfl⟩ (Nat.le_of_ble_eq_true rfl) ⟨Nat.zero_le _, Nat.zero_le _⟩ dX6_difference_3 rfl (fun _ => []) (fun _ => rfl) (fun _ M2 => ?_)
  refine g_lload_n hC 1 7 rfl dX6_difference_6 rfl rfl ?_
  refine g_cS hC 10 1 [.long (fL a1)] [] (cn_X6_size l a1 _) rfl rfl gw_607 gw_609 gw_65 gw_608 (by decide +kernel) rfl ⟨Nat.le_of_ble_eq_true rfl, Nat.le_of_ble_eq_true rfl⟩ (Nat.le_of_ble_eq_true rfl) ⟨Nat.zero_le _, Nat.zero_le _⟩ dX6_difference_7 rfl (fun v3 => .int (fI v3) :: []) (fun _ => rfl) (fun v3 M4 => ?_)
  refine g_lload_n hC 2 11 rfl dX6_difference_10 rfl rfl ?_
  refine g_cS hC 14 1 [.long (fL a3)] [.int (fI v3)] (cn_X6_size l a3 _) rfl rfl gw_607 gw_609 gw_65 gw_608 (by decide +kernel) rfl ⟨Nat.le_of_ble_eq_true rfl, Nat.le_of_ble_eq_true rfl⟩ (Nat.le_of_ble_eq_true rfl) ⟨Nat.zero_le _, Nat.zero_le _⟩ dX6_difference_11 rfl (fun v5 => .int (fI v5) :: [.int (fI v3)]) (fun _ => rfl) (fun v5 M6 => ?_)
  refine g_iadd hC 15 dX6_difference_14 rfl ?_
  refine g_iconst hC 16 dX6_difference_15 rfl ?_
  refine g_aload_n hC 0 17 rfl dX6_difference_16 rfl rfl ?_
  refine g_getA hC 20 inX6 rfl 16 (by decide) gw_543 rfl tb_MD rfl dX6_difference_17 rfl ?_
  refine g_iconst hC 21 dX6_difference_20 rfl ?_
  refine g_iald hC 22 tb_MD_17 (by decide) dX6_difference_21 rfl (fun x7 => ?_)
  refine g_imul hC 23 dX6_difference_22 rfl ?_
  refine g_isub hC 24 dX6_difference_23 rfl ?_
  exact g_ireturn hC hr hk dX6_difference_24
theorem cn_X6_difference (l : Launch) (a1 : Int) (a3 : Int) (M : fMem) : fMt l vwCl TB yX6_difference cX6_difference 5 (some .int) 3 75 0 (fun ad => [.ref (ad 115), .long (fL a1), .long (fL a3)]) M (dn_X6_difference a1 a3 M) :=
  fMt.of (by decide +kernel) (fun _ => Nat.le_of_ble_eq_true rfl) (fun p e s m args below meth c D aC ad hC hr hk => wk_X6_difference hC hr hk a1 a3 M)
def dn_X6_kept_J99  (a1 a2 a3 a5 a6 as0 : Int) (M : fMem) : fOp :=
  fLe 0 as0 (fRd M 117 96 ((24 * a1) + as0) (fun x8 => fCl (dn_X6_difference x8 a3 M) (fun v9 M10 => some (v9, M10)))) (fCl (dn_X6_size a3 M) (fun v11 M12 => some (v11, M12)))
set_option maxRecDepth 100000 in
set_option maxHeartbeats 4000000 in
theorem wk_X6_kept_J99 {l : Launch} {p : Program} {e : Env} {s : State} {m : MethodId} {args : Array Value} {below : List Frame} {meth : Method} {c : Code} {D : va_G} {aC : Nat → ClassId} {ad : Nat → Nat} (hC : fCx p s m args c vwCl D aC TB ad (fFr ad TB) goodTs cX6_kept RX6 8) (hr : meth.sig.returnType = some .int) (hk : meth.locks = false) (a1 a2 a3 a5 a6 as0 : Int)  (M : fMem) : GM l p e s m args below meth c D aC ad 8 4 99 0 99 [(0, .ref (ad 115)), (1, .int (fI a1)), (2, .int (fI a2)), (3, .long (fL a3)), (5, .int (fI a5)), (6, .int (fI a6))] [.int (fI as0)] M (dn_X6_kept_J99 a1 a2 a3 a5 a6 as0 M) := by
  unfold dn_X6_kept_J99
  refine g_istore hC 101 [(7, .int (fI as0)), (0, .ref (ad 115)), (1, .int (fI a1)), (2, .int (fI a2)), (3, .long (fL a3)), (5, .int (fI a5)), (6, .int (fI a6))] dX6_kept_99 (by decide) rfl rfl ?_
  refine g_iload hC 0 103 rfl dX6_kept_101 rfl ?_
  refine g_if_ge hC 113 106 dX6_kept_103 rfl rfl ?_ ?_
  · refine g_aload_n hC 1 114 rfl dX6_kept_113 rfl rfl ?_
    refine g_aload_n hC 1 115 rfl dX6_kept_114 rfl rfl ?_
    refine g_getA hC 118 inX6 rfl 1 (by decide) gw_528 rfl tb_MD rfl dX6_kept_115 rfl ?_
    refine g_bipush hC 120 dX6_kept_118 rfl (by decide +kernel) ?_
    refine g_iload_n hC 2 121 rfl dX6_kept_120 rfl rfl ?_
    refine g_imul hC 122 dX6_kept_121 rfl ?_
    refine g_iload hC 0 124 rfl dX6_kept_122 rfl ?_
    refine g_iadd hC 125 dX6_kept_124 rfl ?_
    refine g_lald hC 126 tb_MD_2 (by decide) dX6_kept_125 rfl (fun x8 => ?_)
    refine g_lload_n hC 4 127 rfl dX6_kept_126 rfl rfl ?_
    refine g_cV hC 130 2 [.long (fL x8), .long (fL a3)] [] (cn_X6_difference l x8 a3 _) rfl rfl tb_MD rfl gw_770 gw_773 gw_65 gw_772 gw_57 (by decide +kernel) rfl ⟨Nat.le_of_ble_eq_true rfl, Nat.le_of_ble_eq_true rfl⟩ (Nat.le_of_ble_eq_true rfl) ⟨Nat.zero_le _, Nat.zero_le _⟩ dX6_kept_127 rfl (fun v9 => .int (fI v9) :: []) (fun _ => rfl) (fun v9 M10 => ?_)
    exact g_ireturn hC hr hk dX6_kept_130
  · refine g_lload_n hC 4 107 rfl dX6_kept_106 rfl rfl ?_
    refine g_cS hC 110 1 [.long (fL a3)] [] (cn_X6_size l a3 _) rfl rfl gw_607 gw_609 gw_65 gw_608 (by decide +kernel) rfl ⟨Nat.le_of_ble_eq_true rfl, Nat.le_of_ble_eq_true rfl⟩ (Nat.le_of_ble_eq_true rfl) ⟨Nat.zero_le _, Nat.zero_le _⟩ dX6_kept_107 rfl (fun v11 => .int (fI v11) :: []) (fun _ => rfl) (fun v11 M12 => ?_)
    refine g_goto hC 130 dX6_kept_110 rfl ?_
    exact g_ireturn hC hr hk dX6_kept_130
def dn_X6_kept (a1 : Int) (a2 : Int) (M : fMem) : fOp :=
  fCl (dn_X6_noRevision a1 a2 M) (fun v1 M2 => fEq v1 0 (fRd M2 117 96 ((24 * a1) + a2) (fun x3 => fRd M2 119 96 ((24 * a1) + a2) (fun x4 => fRd M2 120 96 ((24 * a1) + a2) (fun x5 => fEq x4 0 (fCl (dn_X6_revisionAt a1 0 (x5 + 1) M2) (fun v14 M15 => dn_X6_kept_J99 a1 a2 x3 x4 x5 v14 M15)) (fEq x5 1 (fRd M2 122 24 ((6 * a1) + x4) (fun x13 => dn_X6_kept_J99 a1 a2 x3 x4 x5 x13 M2)) (fCl (dn_X6_revisionAt a1 x4 (x5 - 1) M2) (fun v6 M7 => dn_X6_kept_J99 a1 a2 x3 x4 x5 v6 M7))))))) (some ((-1), M2)))
set_option maxRecDepth 100000 in
set_option maxHeartbeats 4000000 in
theorem wk_X6_kept {l : Launch} {p : Program} {e : Env} {s : State} {m : MethodId} {args : Array Value} {below : List Frame} {meth : Method} {c : Code} {D : va_G} {aC : Nat → ClassId} {ad : Nat → Nat} (hC : fCx p s m args c vwCl D aC TB ad (fFr ad TB) goodTs cX6_kept RX6 8) (hr : meth.sig.returnType = some .int) (hk : meth.locks = false) (a1 : Int) (a2 : Int) (M : fMem) : GM l p e s m args below meth c D aC ad 8 4 99 0 0 [(0, .ref (ad 115)), (1, .int (fI a1)), (2, .int (fI a2))] [] M (dn_X6_kept a1 a2 M) := by
  unfold dn_X6_kept
  refine g_aload_n hC 0 1 rfl dX6_kept_0 rfl rfl ?_
  refine g_iload_n hC 1 2 rfl dX6_kept_1 rfl rfl ?_
  refine g_iload_n hC 2 3 rfl dX6_kept_2 rfl rfl ?_
  refine g_cV hC 6 2 [.int (fI a1), .int (fI a2)] [] (cn_X6_noRevision l a1 a2 _) rfl rfl tb_MD rfl gw_746 gw_749 gw_65 gw_748 gw_54 (by decide +kernel) rfl ⟨Nat.le_of_ble_eq_true rfl, Nat.le_of_ble_eq_true rfl⟩ (Nat.le_of_ble_eq_true rfl) ⟨Nat.zero_le _, Nat.zero_le _⟩ dX6_kept_3 rfl (fun v1 => .int (fI v1) :: []) (fun _ => rfl) (fun v1 M2 => ?_)
  refine g_if_eq hC 11 9 dX6_kept_6 rfl rfl ?_ ?_
  · refine g_aload_n hC 0 12 rfl dX6_kept_11 rfl rfl ?_
    refine g_getA hC 15 inX6 rfl 1 (by decide) gw_528 rfl tb_MD rfl dX6_kept_12 rfl ?_
    refine g_bipush hC 17 dX6_kept_15 rfl (by decide +kernel) ?_
    refine g_iload_n hC 1 18 rfl dX6_kept_17 rfl rfl ?_
    refine g_imul hC 19 dX6_kept_18 rfl ?_
    refine g_iload_n hC 2 20 rfl dX6_kept_19 rfl rfl ?_
    refine g_iadd hC 21 dX6_kept_20 rfl ?_
    refine g_lald hC 22 tb_MD_2 (by decide) dX6_kept_21 rfl (fun x3 => ?_)
    refine g_lstore_n hC 23 [(3, .long (fL x3)), (0, .ref (ad 115)), (1, .int (fI a1)), (2, .int (fI a2))] dX6_kept_22 rfl (by decide) rfl rfl ?_
    refine g_aload_n hC 1 24 rfl dX6_kept_23 rfl rfl ?_
    refine g_getA hC 27 inX6 rfl 3 (by decide) gw_530 rfl tb_MD rfl dX6_kept_24 rfl ?_
    refine g_bipush hC 29 dX6_kept_27 rfl (by decide +kernel) ?_
    refine g_iload_n hC 2 30 rfl dX6_kept_29 rfl rfl ?_
    refine g_imul hC 31 dX6_kept_30 rfl ?_
    refine g_iload_n hC 3 32 rfl dX6_kept_31 rfl rfl ?_
    refine g_iadd hC 33 dX6_kept_32 rfl ?_
    refine g_iald hC 34 tb_MD_4 (by decide) dX6_kept_33 rfl (fun x4 => ?_)
    refine g_istore hC 36 [(5, .int (fI x4)), (3, .long (fL x3)), (0, .ref (ad 115)), (1, .int (fI a1)), (2, .int (fI a2))] dX6_kept_34 (by decide) rfl rfl ?_
    refine g_aload_n hC 2 37 rfl dX6_kept_36 rfl rfl ?_
    refine g_getA hC 40 inX6 rfl 4 (by decide) gw_531 rfl tb_MD rfl dX6_kept_37 rfl ?_
    refine g_bipush hC 42 dX6_kept_40 rfl (by decide +kernel) ?_
    refine g_iload_n hC 3 43 rfl dX6_kept_42 rfl rfl ?_
    refine g_imul hC 44 dX6_kept_43 rfl ?_
    refine g_iload_n hC 4 45 rfl dX6_kept_44 rfl rfl ?_
    refine g_iadd hC 46 dX6_kept_45 rfl ?_
    refine g_iald hC 47 tb_MD_5 (by decide) dX6_kept_46 rfl (fun x5 => ?_)
    refine g_istore hC 49 [(6, .int (fI x5)), (5, .int (fI x4)), (3, .long (fL x3)), (0, .ref (ad 115)), (1, .int (fI a1)), (2, .int (fI a2))] dX6_kept_47 (by decide) rfl rfl ?_
    refine g_iload hC 1 51 rfl dX6_kept_49 rfl ?_
    refine g_if_ne hC 67 54 dX6_kept_51 rfl rfl ?_ ?_
    · refine g_iload hC 0 69 rfl dX6_kept_67 rfl ?_
      refine g_iconst hC 70 dX6_kept_69 rfl ?_
      refine g_icmp_ne hC 88 73 dX6_kept_70 rfl rfl ?_ ?_
      · refine g_aload_n hC 3 89 rfl dX6_kept_88 rfl rfl ?_
        refine g_iload_n hC 4 90 rfl dX6_kept_89 rfl rfl ?_
        refine g_iload hC 1 92 rfl dX6_kept_90 rfl ?_
        refine g_iload hC 0 94 rfl dX6_kept_92 rfl ?_
        refine g_iconst hC 95 dX6_kept_94 rfl ?_
        refine g_isub hC 96 dX6_kept_95 rfl ?_
        refine g_cV hC 99 3 [.int (fI a1), .int (fI x4), .int (fI (x5 - 1))] [] (cn_X6_revisionAt l a1 x4 (x5 - 1) _) rfl rfl tb_MD rfl gw_766 gw_769 gw_65 gw_768 gw_56 (by decide +kernel) rfl ⟨Nat.le_of_ble_eq_true rfl, Nat.le_of_ble_eq_true rfl⟩ (Nat.le_of_ble_eq_true rfl) ⟨Nat.zero_le _, Nat.zero_le _⟩ dX6_kept_96 rfl (fun v6 => .int (fI v6) :: []) (fun _ => rfl) (fun v6 M7 => ?_)
        refine g_lv [3, 4, 5, 2, 1, 0] rfl ?_
        exact wk_X6_kept_J99 hC hr hk _ _ _ _ _ _ _
      · refine g_aload_n hC 3 74 rfl dX6_kept_73 rfl rfl ?_
        refine g_getA hC 77 inX6 rfl 6 (by decide) gw_533 rfl tb_MD rfl dX6_kept_74 rfl ?_
        refine g_bipush hC 79 dX6_kept_77 rfl (by decide +kernel) ?_
        refine g_iload_n hC 4 80 rfl dX6_kept_79 rfl rfl ?_
        refine g_imul hC 81 dX6_kept_80 rfl ?_
        refine g_iload hC 1 83 rfl dX6_kept_81 rfl ?_
        refine g_iadd hC 84 dX6_kept_83 rfl ?_
        refine g_iald hC 85 tb_MD_7 (by decide) dX6_kept_84 rfl (fun x13 => ?_)
        refine g_goto hC 99 dX6_kept_85 rfl ?_
        refine g_lv [3, 4, 5, 2, 1, 0] rfl ?_
        exact wk_X6_kept_J99 hC hr hk _ _ _ _ _ _ _
    · refine g_aload_n hC 3 55 rfl dX6_kept_54 rfl rfl ?_
      refine g_iload_n hC 4 56 rfl dX6_kept_55 rfl rfl ?_
      refine g_iconst hC 57 dX6_kept_56 rfl ?_
      refine g_iload hC 0 59 rfl dX6_kept_57 rfl ?_
      refine g_iconst hC 60 dX6_kept_59 rfl ?_
      refine g_iadd hC 61 dX6_kept_60 rfl ?_
      refine g_cV hC 64 3 [.int (fI a1), .int (fI 0), .int (fI (x5 + 1))] [] (cn_X6_revisionAt l a1 0 (x5 + 1) _) rfl rfl tb_MD rfl gw_766 gw_769 gw_65 gw_768 gw_56 (by decide +kernel) rfl ⟨Nat.le_of_ble_eq_true rfl, Nat.le_of_ble_eq_true rfl⟩ (Nat.le_of_ble_eq_true rfl) ⟨Nat.zero_le _, Nat.zero_le _⟩ dX6_kept_61 rfl (fun v14 => .int (fI v14) :: []) (fun _ => rfl) (fun v14 M15 => ?_)
      refine g_goto hC 99 dX6_kept_64 rfl ?_
      refine g_lv [3, 4, 5, 2, 1, 0] rfl ?_
      exact wk_X6_kept_J99 hC hr hk _ _ _ _ _ _ _
  · refine g_iconst hC 10 dX6_kept_9 rfl ?_
    exact g_ireturn hC hr hk dX6_kept_10
theorem cn_X6_kept (l : Launch) (a1 : Int) (a2 : Int) (M : fMem) : fMt l vwCl TB yX6_kept cX6_kept 8 (some .int) 4 99 0 (fun ad => [.ref (ad 115), .int (fI a1), .int (fI a2)]) M (dn_X6_kept a1 a2 M) :=
  fMt.of (by decide +kernel) (fun _ => Nat.le_of_ble_eq_true rfl) (fun p e s m args below meth c D aC ad hC hr hk => wk_X6_kept hC hr hk a1 a2 M)
def dn_X6_named_J16  (a1 a2 : Int) (M : fMem) : fOp :=
  some ((-1), M)
set_option maxRecDepth 100000 in
set_option maxHeartbeats 4000000 in
theorem wk_X6_named_J16 {l : Launch} {p : Program} {e : Env} {s : State} {m : MethodId} {args : Array Value} {below : List Frame} {meth : Method} {c : Code} {D : va_G} {aC : Nat → ClassId} {ad : Nat → Nat} (hC : fCx p s m args c vwCl D aC TB ad (fFr ad TB) goodTs cX6_named RX6 3) (hr : meth.sig.returnType = some .int) (hk : meth.locks = false) (a1 a2 : Int)  (M : fMem) : GM l p e s m args below meth c D aC ad 3 1 21 0 16 [(0, .ref (ad 115)), (1, .int (fI a1)), (2, .int (fI a2))] [] M (dn_X6_named_J16 a1 a2 M) := by
  unfold dn_X6_named_J16
  refine g_iconst hC 17 dX6_named_16 rfl ?_
  refine g_goto hC 30 dX6_named_17 rfl ?_
  exact g_ireturn hC hr hk dX6_named_30
def dn_X6_named (a1 : Int) (a2 : Int) (M : fMem) : fOp :=
  fCl (dn_X6_below a1 4 M) (fun v1 M2 => fEq v1 0 (dn_X6_named_J16 a1 a2 M2) (fCl (dn_X6_below a2 5 M2) (fun v3 M4 => fEq v3 0 (dn_X6_named_J16 a1 a2 M4) (fRd M4 127 20 ((5 * a1) + a2) (fun x5 => some (x5, M4))))))
set_option maxRecDepth 100000 in
set_option maxHeartbeats 4000000 in
theorem wk_X6_named {l : Launch} {p : Program} {e : Env} {s : State} {m : MethodId} {args : Array Value} {below : List Frame} {meth : Method} {c : Code} {D : va_G} {aC : Nat → ClassId} {ad : Nat → Nat} (hC : fCx p s m args c vwCl D aC TB ad (fFr ad TB) goodTs cX6_named RX6 3) (hr : meth.sig.returnType = some .int) (hk : meth.locks = false) (a1 : Int) (a2 : Int) (M : fMem) : GM l p e s m args below meth c D aC ad 3 1 21 0 0 [(0, .ref (ad 115)), (1, .int (fI a1)), (2, .int (fI a2))] [] M (dn_X6_named a1 a2 M) := by
  unfold dn_X6_named
  refine g_iload_n hC 1 1 rfl dX6_named_0 rfl rfl ?_
  refine g_iconst hC 2 dX6_named_1 rfl ?_
  refine g_cS hC 5 2 [.int (fI a1), .int (fI 4)] [] (cn_X6_below l a1 4 _) rfl rfl gw_601 gw_603 gw_65 gw_602 (by decide +kernel) rfl ⟨Nat.le_of_ble_eq_true rfl, Nat.le_of_ble_eq_true rfl⟩ (Nat.le_of_ble_eq_true rfl) ⟨Nat.zero_le _, Nat.zero_le _⟩ dX6_named_2 rfl (fun v1 => .int (fI v1) :: []) (fun _ => rfl) (fun v1 M2 => ?_)
  refine g_if_eq hC 16 8 dX6_named_5 rfl rfl ?_ ?_
  · exact wk_X6_named_J16 hC hr hk _ _ _
  · refine g_iload_n hC 2 9 rfl dX6_named_8 rfl rfl ?_
    refine g_iconst hC 10 dX6_named_9 rfl ?_
    refine g_cS hC 13 2 [.int (fI a2), .int (fI 5)] [] (cn_X6_below l a2 5 _) rfl rfl gw_601 gw_603 gw_65 gw_602 (by decide +kernel) rfl ⟨Nat.le_of_ble_eq_true rfl, Nat.le_of_ble_eq_true rfl⟩ (Nat.le_of_ble_eq_true rfl) ⟨Nat.zero_le _, Nat.zero_le _⟩ dX6_named_10 rfl (fun v3 => .int (fI v3) :: []) (fun _ => rfl) (fun v3 M4 => ?_)
    refine g_if_ne hC 20 16 dX6_named_13 rfl rfl ?_ ?_
    · refine g_aload_n hC 0 21 rfl dX6_named_20 rfl rfl ?_
      refine g_getA hC 24 inX6 rfl 11 (by decide) gw_538 rfl tb_MD rfl dX6_named_21 rfl ?_
      refine g_iconst hC 25 dX6_named_24 rfl ?_
      refine g_iload_n hC 1 26 rfl dX6_named_25 rfl rfl ?_
      refine g_imul hC 27 dX6_named_26 rfl ?_
      refine g_iload_n hC 2 28 rfl dX6_named_27 rfl rfl ?_
      refine g_iadd hC 29 dX6_named_28 rfl ?_
      refine g_iald hC 30 tb_MD_12 (by decide) dX6_named_29 rfl (fun x5 => ?_)
      exact g_ireturn hC hr hk dX6_named_30
    · exact wk_X6_named_J16 hC hr hk _ _ _
theorem cn_X6_named (l : Launch) (a1 : Int) (a2 : Int) (M : fMem) : fMt l vwCl TB yX6_named cX6_named 3 (some .int) 1 21 0 (fun ad => [.ref (ad 115), .int (fI a1), .int (fI a2)]) M (dn_X6_named a1 a2 M) :=
  fMt.of (by decide +kernel) (fun _ => Nat.le_of_ble_eq_true rfl) (fun p e s m args below meth c D aC ad hC hr hk => wk_X6_named hC hr hk a1 a2 M)
def dn_X6_standard_J17  (a1 : Int) (M : fMem) : fOp :=
  some ((-1), M)
set_option maxRecDepth 100000 in
set_option maxHeartbeats 4000000 in
theorem wk_X6_standard_J17 {l : Launch} {p : Program} {e : Env} {s : State} {m : MethodId} {args : Array Value} {below : List Frame} {meth : Method} {c : Code} {D : va_G} {aC : Nat → ClassId} {ad : Nat → Nat} (hC : fCx p s m args c vwCl D aC TB ad (fFr ad TB) goodTs cX6_standard RX6 2) (hr : meth.sig.returnType = some .int) (hk : meth.locks = false) (a1 : Int)  (M : fMem) : GM l p e s m args below meth c D aC ad 2 1 21 0 17 [(0, .ref (ad 115)), (1, .int (fI a1))] [] M (dn_X6_standard_J17 a1 M) := by
  unfold dn_X6_standard_J17
  refine g_iconst hC 18 dX6_standard_17 rfl ?_
  refine g_goto hC 27 dX6_standard_18 rfl ?_
  exact g_ireturn hC hr hk dX6_standard_27
def dn_X6_standard (a1 : Int) (M : fMem) : fOp :=
  fCl (dn_X6_below a1 4 M) (fun v1 M2 => fEq v1 0 (dn_X6_standard_J17 a1 M2) (fRd M2 116 4 a1 (fun x3 => fEq x3 0 (dn_X6_standard_J17 a1 M2) (fRd M2 125 4 a1 (fun x4 => some (x4, M2))))))
set_option maxRecDepth 100000 in
set_option maxHeartbeats 4000000 in
theorem wk_X6_standard {l : Launch} {p : Program} {e : Env} {s : State} {m : MethodId} {args : Array Value} {below : List Frame} {meth : Method} {c : Code} {D : va_G} {aC : Nat → ClassId} {ad : Nat → Nat} (hC : fCx p s m args c vwCl D aC TB ad (fFr ad TB) goodTs cX6_standard RX6 2) (hr : meth.sig.returnType = some .int) (hk : meth.locks = false) (a1 : Int) (M : fMem) : GM l p e s m args below meth c D aC ad 2 1 21 0 0 [(0, .ref (ad 115)), (1, .int (fI a1))] [] M (dn_X6_standard a1 M) := by
  unfold dn_X6_standard
  refine g_iload_n hC 1 1 rfl dX6_standard_0 rfl rfl ?_
  refine g_iconst hC 2 dX6_standard_1 rfl ?_
  refine g_cS hC 5 2 [.int (fI a1), .int (fI 4)] [] (cn_X6_below l a1 4 _) rfl rfl gw_601 gw_603 gw_65 gw_602 (by decide +kernel) rfl ⟨Nat.le_of_ble_eq_true rfl, Nat.le_of_ble_eq_true rfl⟩ (Nat.le_of_ble_eq_true rfl) ⟨Nat.zero_le _, Nat.zero_le _⟩ dX6_standard_2 rfl (fun v1 => .int (fI v1) :: []) (fun _ => rfl) (fun v1 M2 => ?_)
  refine g_if_eq hC 17 8 dX6_standard_5 rfl rfl ?_ ?_
  · exact wk_X6_standard_J17 hC hr hk _ _
  · refine g_aload_n hC 0 9 rfl dX6_standard_8 rfl rfl ?_
    refine g_getA hC 12 inX6 rfl 0 (by decide) gw_527 rfl tb_MD rfl dX6_standard_9 rfl ?_
    refine g_iload_n hC 1 13 rfl dX6_standard_12 rfl rfl ?_
    refine g_iald hC 14 tb_MD_1 (by decide) dX6_standard_13 rfl (fun x3 => ?_)
    refine g_if_ne hC 21 17 dX6_standard_14 rfl rfl ?_ ?_
    · refine g_aload_n hC 0 22 rfl dX6_standard_21 rfl rfl ?_
      refine g_getA hC 25 inX6 rfl 9 (by decide) gw_536 rfl tb_MD rfl dX6_standard_22 rfl ?_
      refine g_iload_n hC 1 26 rfl dX6_standard_25 rfl rfl ?_
      refine g_iald hC 27 tb_MD_10 (by decide) dX6_standard_26 rfl (fun x4 => ?_)
      exact g_ireturn hC hr hk dX6_standard_27
    · exact wk_X6_standard_J17 hC hr hk _ _
theorem cn_X6_standard (l : Launch) (a1 : Int) (M : fMem) : fMt l vwCl TB yX6_standard cX6_standard 2 (some .int) 1 21 0 (fun ad => [.ref (ad 115), .int (fI a1)]) M (dn_X6_standard a1 M) :=
  fMt.of (by decide +kernel) (fun _ => Nat.le_of_ble_eq_true rfl) (fun p e s m args below meth c D aC ad hC hr hk => wk_X6_standard hC hr hk a1 M)
