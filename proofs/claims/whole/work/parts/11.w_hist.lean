def dn_X2_isThere (P0 : Nat) (M : fMem) : fOp :=
  fGt M P0 5 (fun x1 => fLe x1 0 (fRz 0 M) (fRz 1 M))
set_option maxRecDepth 100000 in
set_option maxHeartbeats 4000000 in
theorem wk_X2_isThere {l : Launch} {p : Program} {e : Env} {s : State} {m : MethodId} {args : Array Value} {below : List Frame} {meth : Method} {c : Code} {D : va_G} {aC : Nat → ClassId} {ad : Nat → Nat} (hC : fCx p s m args c vwCl D aC TB ad (fFr ad TB) goodTs cX2_isThere RX2 1) (hr : meth.sig.returnType = some .boolean) (hk : meth.locks = false) (P0 : Nat) (hP0 : fIsH P0) (M : fMem) : GM l p e s m args below meth c D aC ad 1 0 0 0 0 [(0, .ref (ad P0))] [] M (dn_X2_isThere P0 M) := by
  unfold dn_X2_isThere
  refine g_aload_n hC 0 1 rfl dX2_isThere_0 rfl rfl ?_
  refine g_getI hC 4 inX2 rfl 5 (by decide) gw_93 rfl (tb_H hP0) rfl dX2_isThere_1 rfl (fun x1 => ?_)
  refine g_if_le hC 11 7 dX2_isThere_4 rfl rfl ?_ ?_
  · refine g_iconst hC 12 dX2_isThere_11 rfl ?_
    exact g_zreturn hC hr hk dX2_isThere_12
  · refine g_iconst hC 8 dX2_isThere_7 rfl ?_
    refine g_goto hC 12 dX2_isThere_8 rfl ?_
    exact g_zreturn hC hr hk dX2_isThere_12
theorem cn_X2_isThere (l : Launch) (P0 : Nat) (hP0 : fIsH P0) (M : fMem) : fMt l vwCl TB yX2_isThere cX2_isThere 1 (some .boolean) 0 0 0 (fun ad => [.ref (ad P0)]) M (dn_X2_isThere P0 M) :=
  fMt.of (by decide +kernel) (fun _ => Nat.le_of_ble_eq_true rfl) (fun p e s m args below meth c D aC ad hC hr hk => wk_X2_isThere hC hr hk P0 hP0 M)
def dn_X2_tip (P0 : Nat) (a1 : Int) (M : fMem) : fOp :=
  fRd M (P0 + 9) 6 a1 (fun x1 => some (x1, M))
set_option maxRecDepth 100000 in
set_option maxHeartbeats 4000000 in
theorem wk_X2_tip {l : Launch} {p : Program} {e : Env} {s : State} {m : MethodId} {args : Array Value} {below : List Frame} {meth : Method} {c : Code} {D : va_G} {aC : Nat → ClassId} {ad : Nat → Nat} (hC : fCx p s m args c vwCl D aC TB ad (fFr ad TB) goodTs cX2_tip RX2 2) (hr : meth.sig.returnType = some .int) (hk : meth.locks = false) (P0 : Nat) (hP0 : fIsH P0) (a1 : Int) (M : fMem) : GM l p e s m args below meth c D aC ad 2 0 0 0 0 [(0, .ref (ad P0)), (1, .int (fI a1))] [] M (dn_X2_tip P0 a1 M) := by
  unfold dn_X2_tip
  refine g_aload_n hC 0 1 rfl dX2_tip_0 rfl rfl ?_
  refine g_getA hC 4 inX2 rfl 9 (by decide) gw_98 rfl (tb_H hP0) rfl dX2_tip_1 rfl ?_
  refine g_iload_n hC 1 5 rfl dX2_tip_4 rfl rfl ?_
  refine g_iald hC 6 (tb_H_9 hP0) (by decide) dX2_tip_5 rfl (fun x1 => ?_)
  exact g_ireturn hC hr hk dX2_tip_6
theorem cn_X2_tip (l : Launch) (P0 : Nat) (hP0 : fIsH P0) (a1 : Int) (M : fMem) : fMt l vwCl TB yX2_tip cX2_tip 2 (some .int) 0 0 0 (fun ad => [.ref (ad P0), .int (fI a1)]) M (dn_X2_tip P0 a1 M) :=
  fMt.of (by decide +kernel) (fun _ => Nat.le_of_ble_eq_true rfl) (fun p e s m args below meth c D aC ad hC hr hk => wk_X2_tip hC hr hk P0 hP0 a1 M)
def dn_X2_isAlive (P0 : Nat) (a1 : Int) (M : fMem) : fOp :=
  fEq a1 (-1) (fRz 0 M) (fRd M (P0 + 2) 24 a1 (fun x1 => fEq x1 0 (fRz 1 M) (fRz 0 M)))
set_option maxRecDepth 100000 in
set_option maxHeartbeats 4000000 in
theorem wk_X2_isAlive {l : Launch} {p : Program} {e : Env} {s : State} {m : MethodId} {args : Array Value} {below : List Frame} {meth : Method} {c : Code} {D : va_G} {aC : Nat → ClassId} {ad : Nat → Nat} (hC : fCx p s m args c vwCl D aC TB ad (fFr ad TB) goodTs cX2_isAlive RX2 2) (hr : meth.sig.returnType = some .boolean) (hk : meth.locks = false) (P0 : Nat) (hP0 : fIsH P0) (a1 : Int) (M : fMem) : GM l p e s m args below meth c D aC ad 2 0 0 0 0 [(0, .ref (ad P0)), (1, .int (fI a1))] [] M (dn_X2_isAlive P0 a1 M) := by
  unfold dn_X2_isAlive
  refine g_iload_n hC 1 1 rfl dX2_isAlive_0 rfl rfl ?_
  refine g_iconst hC 2 dX2_isAlive_1 rfl ?_
  refine g_icmp_eq hC 18 5 dX2_isAlive_2 rfl rfl ?_ ?_
  · refine g_iconst hC 19 dX2_isAlive_18 rfl ?_
    exact g_zreturn hC hr hk dX2_isAlive_19
  · refine g_aload_n hC 0 6 rfl dX2_isAlive_5 rfl rfl ?_
    refine g_getA hC 9 inX2 rfl 1 (by decide) gw_88 rfl (tb_H hP0) rfl dX2_isAlive_6 rfl ?_
    refine g_iload_n hC 1 10 rfl dX2_isAlive_9 rfl rfl ?_
    refine g_zald hC 11 (tb_H_2 hP0) (by decide) dX2_isAlive_10 rfl (fun x1 => ?_)
    refine g_if_ne hC 18 14 dX2_isAlive_11 rfl rfl ?_ ?_
    · refine g_iconst hC 19 dX2_isAlive_18 rfl ?_
      exact g_zreturn hC hr hk dX2_isAlive_19
    · refine g_iconst hC 15 dX2_isAlive_14 rfl ?_
      refine g_goto hC 19 dX2_isAlive_15 rfl ?_
      exact g_zreturn hC hr hk dX2_isAlive_19
theorem cn_X2_isAlive (l : Launch) (P0 : Nat) (hP0 : fIsH P0) (a1 : Int) (M : fMem) : fMt l vwCl TB yX2_isAlive cX2_isAlive 2 (some .boolean) 0 0 0 (fun ad => [.ref (ad P0), .int (fI a1)]) M (dn_X2_isAlive P0 a1 M) :=
  fMt.of (by decide +kernel) (fun _ => Nat.le_of_ble_eq_true rfl) (fun p e s m args below meth c D aC ad hC hr hk => wk_X2_isAlive hC hr hk P0 hP0 a1 M)
def dn_X2_hasRoom (P0 : Nat) (a1 : Int) (a2 : Int) (M : fMem) : fOp :=
  fGt M P0 5 (fun x1 => fLt 24 (x1 + a1) (fRz 0 M) (fGt M P0 10 (fun x2 => fLt 6 (x2 + a2) (fRz 0 M) (fRz 1 M))))
set_option maxRecDepth 100000 in
set_option maxHeartbeats 4000000 in
theorem wk_X2_hasRoom {l : Launch} {p : Program} {e : Env} {s : State} {m : MethodId} {args : Array Value} {below : List Frame} {meth : Method} {c : Code} {D : va_G} {aC : Nat → ClassId} {ad : Nat → Nat} (hC : fCx p s m args c vwCl D aC TB ad (fFr ad TB) goodTs cX2_hasRoom RX2 3) (hr : meth.sig.returnType = some .boolean) (hk : meth.locks = false) (P0 : Nat) (hP0 : fIsH P0) (a1 : Int) (a2 : Int) (M : fMem) : GM l p e s m args below meth c D aC ad 3 0 0 0 0 [(0, .ref (ad P0)), (1, .int (fI a1)), (2, .int (fI a2))] [] M (dn_X2_hasRoom P0 a1 a2 M) := by
  unfold dn_X2_hasRoom
  refine g_aload_n hC 0 1 rfl dX2_hasRoom_0 rfl rfl ?_
  refine g_getI hC 4 inX2 rfl 5 (by decide) gw_93 rfl (tb_H hP0) rfl dX2_hasRoom_1 rfl (fun x1 => ?_)
  refine g_iload_n hC 1 5 rfl dX2_hasRoom_4 rfl rfl ?_
  refine g_iadd hC 6 dX2_hasRoom_5 rfl ?_
  refine g_bipush hC 8 dX2_hasRoom_6 rfl (by decide +kernel) ?_
  refine g_icmp_gt hC 26 11 dX2_hasRoom_8 rfl rfl ?_ ?_
  · refine g_iconst hC 27 dX2_hasRoom_26 rfl ?_
    exact g_zreturn hC hr hk dX2_hasRoom_27
  · refine g_aload_n hC 0 12 rfl dX2_hasRoom_11 rfl rfl ?_
    refine g_getI hC 15 inX2 rfl 10 (by decide) gw_99 rfl (tb_H hP0) rfl dX2_hasRoom_12 rfl (fun x2 => ?_)
    refine g_iload_n hC 2 16 rfl dX2_hasRoom_15 rfl rfl ?_
    refine g_iadd hC 17 dX2_hasRoom_16 rfl ?_
    refine g_bipush hC 19 dX2_hasRoom_17 rfl (by decide +kernel) ?_
    refine g_icmp_gt hC 26 22 dX2_hasRoom_19 rfl rfl ?_ ?_
    · refine g_iconst hC 27 dX2_hasRoom_26 rfl ?_
      exact g_zreturn hC hr hk dX2_hasRoom_27
    · refine g_iconst hC 23 dX2_hasRoom_22 rfl ?_
      refine g_goto hC 27 dX2_hasRoom_23 rfl ?_
      exact g_zreturn hC hr hk dX2_hasRoom_27
theorem cn_X2_hasRoom (l : Launch) (P0 : Nat) (hP0 : fIsH P0) (a1 : Int) (a2 : Int) (M : fMem) : fMt l vwCl TB yX2_hasRoom cX2_hasRoom 3 (some .boolean) 0 0 0 (fun ad => [.ref (ad P0), .int (fI a1), .int (fI a2)]) M (dn_X2_hasRoom P0 a1 a2 M) :=
  fMt.of (by decide +kernel) (fun _ => Nat.le_of_ble_eq_true rfl) (fun p e s m args below meth c D aC ad hC hr hk => wk_X2_hasRoom hC hr hk P0 hP0 a1 a2 M)
def dn_X2_append (P0 : Nat) (a1 : Int) (a2 : Int) (a4 : Int) (M : fMem) : fOp :=
  fGt M P0 5 (fun x1 => fGt M P0 5 (fun x2 => fPt M P0 5 (x2 + 1) (fun M3 => fRd M3 (P0 + 8) 6 a1 (fun x4 => fWr M3 (P0 + 8) 6 a1 (x4 + 1) (fun M5 => fWr M5 (P0 + 1) 24 x1 a2 (fun M6 => fWz M6 (P0 + 2) 24 x1 a4 (fun M7 => fWr M7 (P0 + 3) 24 x1 a1 (fun M8 => fRd M8 (P0 + 8) 6 a1 (fun x9 => fWr M8 (P0 + 4) 24 x1 x9 (fun M10 => fRd M10 (P0 + 9) 6 a1 (fun x11 => fWr M10 (P0 + 5) 24 x1 x11 (fun M12 => fWr M12 (P0 + 9) 6 a1 x1 (fun M13 => some (x1, M13))))))))))))))
set_option maxRecDepth 100000 in
set_option maxHeartbeats 4000000 in
theorem wk_X2_append {l : Launch} {p : Program} {e : Env} {s : State} {m : MethodId} {args : Array Value} {below : List Frame} {meth : Method} {c : Code} {D : va_G} {aC : Nat → ClassId} {ad : Nat → Nat} (hC : fCx p s m args c vwCl D aC TB ad (fFr ad TB) goodTs cX2_append RX2 6) (hr : meth.sig.returnType = some .int) (hk : meth.locks = false) (P0 : Nat) (hP0 : fIsH P0) (a1 : Int) (a2 : Int) (a4 : Int) (M : fMem) : GM l p e s m args below meth c D aC ad 6 0 0 0 0 [(0, .ref (ad P0)), (1, .int (fI a1)), (2, .long (fL a2)), (4, .int (fI a4))] [] M (dn_X2_append P0 a1 a2 a4 M) := by
  unfold dn_X2_append
  refine g_aload_n hC 0 1 rfl dX2_append_0 rfl rfl ?_
  refine g_getI hC 4 inX2 rfl 5 (by decide) gw_93 rfl (tb_H hP0) rfl dX2_append_1 rfl (fun x1 => ?_)
  refine g_istore hC 6 [(5, .int (fI x1)), (0, .ref (ad P0)), (1, .int (fI a1)), (2, .long (fL a2)), (4, .int (fI a4))] dX2_append_4 (by decide) rfl rfl ?_
  refine g_aload_n hC 1 7 rfl dX2_append_6 rfl rfl ?_
  refine g_dup hC 8 dX2_append_7 rfl rfl ?_
  refine g_getI hC 11 inX2 rfl 5 (by decide) gw_93 rfl (tb_H hP0) rfl dX2_append_8 rfl (fun x2 => ?_)
  refine g_iconst hC 12 dX2_append_11 rfl ?_
  refine g_iadd hC 13 dX2_append_12 rfl ?_
  refine g_putI hC 16 tyX2 tyX2_ok nmX2 inX2 rfl 5 (by decide) gw_93 rfl rfl (by decide +kernel) (tb_H hP0) rfl dX2_append_13 rfl (fun M3 => ?_)
  refine g_aload_n hC 1 17 rfl dX2_append_16 rfl rfl ?_
  refine g_getA hC 20 inX2 rfl 8 (by decide) gw_97 rfl (tb_H hP0) rfl dX2_append_17 rfl ?_
  refine g_iload_n hC 2 21 rfl dX2_append_20 rfl rfl ?_
  refine g_dup2 hC 22 dX2_append_21 rfl rfl rfl ?_
  refine g_iald hC 23 (tb_H_8 hP0) (by decide) dX2_append_22 rfl (fun x4 => ?_)
  refine g_iconst hC 24 dX2_append_23 rfl ?_
  refine g_iadd hC 25 dX2_append_24 rfl ?_
  refine g_iast hC 26 (tb_H_8 hP0) (by decide) dX2_append_25 rfl (fun M5 => ?_)
  refine g_aload_n hC 1 27 rfl dX2_append_26 rfl rfl ?_
  refine g_getA hC 30 inX2 rfl 0 (by decide) gw_86 rfl (tb_H hP0) rfl dX2_append_27 rfl ?_
  refine g_iload hC 0 32 rfl dX2_append_30 rfl ?_
  refine g_lload_n hC 3 33 rfl dX2_append_32 rfl rfl ?_
  refine g_last hC 34 (tb_H_1 hP0) (by decide) dX2_append_33 rfl (fun M6 => ?_)
  refine g_aload_n hC 1 35 rfl dX2_append_34 rfl rfl ?_
  refine g_getA hC 38 inX2 rfl 1 (by decide) gw_88 rfl (tb_H hP0) rfl dX2_append_35 rfl ?_
  refine g_iload hC 0 40 rfl dX2_append_38 rfl ?_
  refine g_iload hC 4 42 rfl dX2_append_40 rfl ?_
  refine g_zast hC 43 (tb_H_2 hP0) (by decide) dX2_append_42 rfl (fun M7 => ?_)
  refine g_aload_n hC 1 44 rfl dX2_append_43 rfl rfl ?_
  refine g_getA hC 47 inX2 rfl 2 (by decide) gw_90 rfl (tb_H hP0) rfl dX2_append_44 rfl ?_
  refine g_iload hC 0 49 rfl dX2_append_47 rfl ?_
  refine g_iload_n hC 2 50 rfl dX2_append_49 rfl rfl ?_
  refine g_iast hC 51 (tb_H_3 hP0) (by decide) dX2_append_50 rfl (fun M8 => ?_)
  refine g_aload_n hC 1 52 rfl dX2_append_51 rfl rfl ?_
  refine g_getA hC 55 inX2 rfl 3 (by decide) gw_91 rfl (tb_H hP0) rfl dX2_append_52 rfl ?_
  refine g_iload hC 0 57 rfl dX2_append_55 rfl ?_
  refine g_aload_n hC 1 58 rfl dX2_append_57 rfl rfl ?_
  refine g_getA hC 61 inX2 rfl 8 (by decide) gw_97 rfl (tb_H hP0) rfl dX2_append_58 rfl ?_
  refine g_iload_n hC 2 62 rfl dX2_append_61 rfl rfl ?_
  refine g_iald hC 63 (tb_H_8 hP0) (by decide) dX2_append_62 rfl (fun x9 => ?_)
  refine g_iast hC 64 (tb_H_4 hP0) (by decide) dX2_append_63 rfl (fun M10 => ?_)
  refine g_aload_n hC 1 65 rfl dX2_append_64 rfl rfl ?_
  refine g_getA hC 68 inX2 rfl 4 (by decide) gw_92 rfl (tb_H hP0) rfl dX2_append_65 rfl ?_
  refine g_iload hC 0 70 rfl dX2_append_68 rfl ?_
  refine g_aload_n hC 1 71 rfl dX2_append_70 rfl rfl ?_
  refine g_getA hC 74 inX2 rfl 9 (by decide) gw_98 rfl (tb_H hP0) rfl dX2_append_71 rfl ?_
  refine g_iload_n hC 2 75 rfl dX2_append_74 rfl rfl ?_
  refine g_iald hC 76 (tb_H_9 hP0) (by decide) dX2_append_75 rfl (fun x11 => ?_)
  refine g_iast hC 77 (tb_H_5 hP0) (by decide) dX2_append_76 rfl (fun M12 => ?_)
  refine g_aload_n hC 1 78 rfl dX2_append_77 rfl rfl ?_
  refine g_getA hC 81 inX2 rfl 9 (by decide) gw_98 rfl (tb_H hP0) rfl dX2_append_78 rfl ?_
  refine g_iload_n hC 2 82 rfl dX2_append_81 rfl rfl ?_
  refine g_iload hC 0 84 rfl dX2_append_82 rfl ?_
  refine g_iast hC 85 (tb_H_9 hP0) (by decide) dX2_append_84 rfl (fun M13 => ?_)
  refine g_iload hC 0 87 rfl dX2_append_85 rfl ?_
  exact g_ireturn hC hr hk dX2_append_87
theorem cn_X2_append (l : Launch) (P0 : Nat) (hP0 : fIsH P0) (a1 : Int) (a2 : Int) (a4 : Int) (M : fMem) : fMt l vwCl TB yX2_append cX2_append 6 (some .int) 0 0 0 (fun ad => [.ref (ad P0), .int (fI a1), .long (fL a2), .int (fI a4)]) M (dn_X2_append P0 a1 a2 a4 M) :=
  fMt.of (by decide +kernel) (fun _ => Nat.le_of_ble_eq_true rfl) (fun p e s m args below meth c D aC ad hC hr hk => wk_X2_append hC hr hk P0 hP0 a1 a2 a4 M)
def dn_X2_freeMagic_J33 (P0 : Nat) (r : Int → Int → fMem → fOp) (a1 a2 a3 : Int) (M : fMem) : fOp :=
  r a2 (a3 + 1) M
set_option maxRecDepth 100000 in
set_option maxHeartbeats 4000000 in
theorem wk_X2_freeMagic_J33 {l : Launch} {p : Program} {e : Env} {s : State} {m : MethodId} {args : Array Value} {below : List Frame} {meth : Method} {c : Code} {D : va_G} {aC : Nat → ClassId} {ad : Nat → Nat} (hC : fCx p s m args c vwCl D aC TB ad (fFr ad TB) goodTs cX2_freeMagic RX2 4) (hr : meth.sig.returnType = some .int) (hk : meth.locks = false) (P0 : Nat) (hP0 : fIsH P0) (a1 a2 a3 : Int)  (r : Int → Int → fMem → fOp) (hrc : ∀ (z2 z3 : Int) (M : fMem), GM l p e s m args below meth c D aC ad 4 0 0 0 4 [(0, .ref (ad P0)), (1, .int (fI a1)), (2, .int (fI z2)), (3, .int (fI z3))] [] M (r z2 z3 M)) (M : fMem) : GM l p e s m args below meth c D aC ad 4 0 0 0 33 [(0, .ref (ad P0)), (1, .int (fI a1)), (2, .int (fI a2)), (3, .int (fI a3))] [] M (dn_X2_freeMagic_J33 P0 r a1 a2 a3 M) := by
  unfold dn_X2_freeMagic_J33
  refine g_iinc hC 3 36 [(3, .int (fI (a3 + 1))), (0, .ref (ad P0)), (1, .int (fI a1)), (2, .int (fI a2))] rfl dX2_freeMagic_33 (by decide) rfl rfl ?_
  refine g_goto hC 4 dX2_freeMagic_36 rfl ?_
  refine g_lv [1, 2, 3, 0] rfl ?_
  exact hrc _ _ _
def dn_X2_freeMagic_L4B (P0 : Nat) (a1 : Int) (r : Int → Int → fMem → fOp) (a2 a3 : Int) (M : fMem) : fOp :=
  fGt M P0 10 (fun x1 => fLe x1 a3 (some (a2, M)) (fGt M P0 11 (fun x2 => fEq a3 x2 (dn_X2_freeMagic_J33 P0 r a1 a2 a3 M) (fRd M (P0 + 6) 6 a3 (fun x3 => fEq x3 a1 (dn_X2_freeMagic_J33 P0 r a1 (a2 + 2) a3 M) (dn_X2_freeMagic_J33 P0 r a1 a2 a3 M))))))
def dn_X2_freeMagic_L4 (P0 : Nat) (a1 : Int) : Nat → Int → Int → fMem → fOp
  | 0, _, _, _ => none
  | n + 1, a2, a3, M => dn_X2_freeMagic_L4B P0 a1 (fun a2 a3 M => dn_X2_freeMagic_L4 P0 a1 n a2 a3 M) a2 a3 M
set_option maxRecDepth 100000 in
set_option maxHeartbeats 4000000 in
theorem wk_X2_freeMagic_L4B {l : Launch} {p : Program} {e : Env} {s : State} {m : MethodId} {args : Array Value} {below : List Frame} {meth : Method} {c : Code} {D : va_G} {aC : Nat → ClassId} {ad : Nat → Nat} (hC : fCx p s m args c vwCl D aC TB ad (fFr ad TB) goodTs cX2_freeMagic RX2 4) (hr : meth.sig.returnType = some .int) (hk : meth.locks = false) (P0 : Nat) (hP0 : fIsH P0) (a1 : Int) (r : Int → Int → fMem → fOp) (hrc : ∀ (a2 a3 : Int) (M : fMem), GM l p e s m args below meth c D aC ad 4 0 0 0 4 [(0, .ref (ad P0)), (1, .int (fI a1)), (2, .int (fI a2)), (3, .int (fI a3))] [] M (r a2 a3 M)) (a2 a3 : Int) (M : fMem) : GM l p e s m args below meth c D aC ad 4 0 0 0 4 [(0, .ref (ad P0)), (1, .int (fI a1)), (2, .int (fI a2)), (3, .int (fI a3))] [] M (dn_X2_freeMagic_L4B P0 a1 r a2 a3 M) := by
  unfold dn_X2_freeMagic_L4B
  refine g_iload_n hC 3 5 rfl dX2_freeMagic_4 rfl rfl ?_
  refine g_aload_n hC 0 6 rfl dX2_freeMagic_5 rfl rfl ?_
  refine g_getI hC 9 inX2 rfl 10 (by decide) gw_99 rfl (tb_H hP0) rfl dX2_freeMagic_6 rfl (fun x1 => ?_)
  refine g_icmp_ge hC 39 12 dX2_freeMagic_9 rfl rfl ?_ ?_
  · refine g_iload_n hC 2 40 rfl dX2_freeMagic_39 rfl rfl ?_
    exact g_ireturn hC hr hk dX2_freeMagic_40
  · refine g_iload_n hC 3 13 rfl dX2_freeMagic_12 rfl rfl ?_
    refine g_aload_n hC 0 14 rfl dX2_freeMagic_13 rfl rfl ?_
    refine g_getI hC 17 inX2 rfl 11 (by decide) gw_100 rfl (tb_H hP0) rfl dX2_freeMagic_14 rfl (fun x2 => ?_)
    refine g_icmp_eq hC 33 20 dX2_freeMagic_17 rfl rfl ?_ ?_
    · exact wk_X2_freeMagic_J33 hC hr hk _ hP0 _ _ _ _ hrc _
    · refine g_aload_n hC 0 21 rfl dX2_freeMagic_20 rfl rfl ?_
      refine g_getA hC 24 inX2 rfl 6 (by decide) gw_95 rfl (tb_H hP0) rfl dX2_freeMagic_21 rfl ?_
      refine g_iload_n hC 3 25 rfl dX2_freeMagic_24 rfl rfl ?_
      refine g_iald hC 26 (tb_H_6 hP0) (by decide) dX2_freeMagic_25 rfl (fun x3 => ?_)
      refine g_iload_n hC 1 27 rfl dX2_freeMagic_26 rfl rfl ?_
      refine g_icmp_ne hC 33 30 dX2_freeMagic_27 rfl rfl ?_ ?_
      · exact wk_X2_freeMagic_J33 hC hr hk _ hP0 _ _ _ _ hrc _
      · refine g_iinc hC 2 33 [(2, .int (fI (a2 + 2))), (0, .ref (ad P0)), (1, .int (fI a1)), (3, .int (fI a3))] rfl dX2_freeMagic_30 (by decide) rfl rfl ?_
        refine g_lv [1, 2, 0, 3] rfl ?_
        exact wk_X2_freeMagic_J33 hC hr hk _ hP0 _ _ _ _ hrc _
set_option maxRecDepth 100000 in
set_option maxHeartbeats 4000000 in
theorem wk_X2_freeMagic_L4 {l : Launch} {p : Program} {e : Env} {s : State} {m : MethodId} {args : Array Value} {below : List Frame} {meth : Method} {c : Code} {D : va_G} {aC : Nat → ClassId} {ad : Nat → Nat} (hC : fCx p s m args c vwCl D aC TB ad (fFr ad TB) goodTs cX2_freeMagic RX2 4) (hr : meth.sig.returnType = some .int) (hk : meth.locks = false) (P0 : Nat) (hP0 : fIsH P0) (a1 : Int) (n : Nat) : ∀ (a2 a3 : Int) (M : fMem), GM l p e s m args below meth c D aC ad 4 0 0 0 4 [(0, .ref (ad P0)), (1, .int (fI a1)), (2, .int (fI a2)), (3, .int (fI a3))] [] M (dn_X2_freeMagic_L4 P0 a1 n a2 a3 M) := by
  induction n with
  | zero => intro a2 a3 M; exact g_none
  | succ n ih => intro a2 a3 M; exact wk_X2_freeMagic_L4B hC hr hk P0 hP0 a1 (fun a2 a3 M => dn_X2_freeMagic_L4 P0 a1 n a2 a3 M) ih a2 a3 M
def dn_X2_freeMagic (P0 : Nat) (a1 : Int) (M : fMem) : fOp :=
  dn_X2_freeMagic_L4 P0 a1 600 2 1 M
set_option maxRecDepth 100000 in
set_option maxHeartbeats 4000000 in
theorem wk_X2_freeMagic {l : Launch} {p : Program} {e : Env} {s : State} {m : MethodId} {args : Array Value} {below : List Frame} {meth : Method} {c : Code} {D : va_G} {aC : Nat → ClassId} {ad : Nat → Nat} (hC : fCx p s m args c vwCl D aC TB ad (fFr ad TB) goodTs cX2_freeMagic RX2 4) (hr : meth.sig.returnType = some .int) (hk : meth.locks = false) (P0 : Nat) (hP0 : fIsH P0) (a1 : Int) (M : fMem) : GM l p e s m args below meth c D aC ad 4 0 0 0 0 [(0, .ref (ad P0)), (1, .int (fI a1))] [] M (dn_X2_freeMagic P0 a1 M) := by
  unfold dn_X2_freeMagic
  refine g_iconst hC 1 dX2_freeMagic_0 rfl ?_
  refine g_istore_n hC 2 [(2, .int (fI 2)), (0, .ref (ad P0)), (1, .int (fI a1))] dX2_freeMagic_1 rfl (by decide) rfl rfl ?_
  refine g_iconst hC 3 dX2_freeMagic_2 rfl ?_
  refine g_istore_n hC 4 [(3, .int (fI 1)), (2, .int (fI 2)), (0, .ref (ad P0)), (1, .int (fI a1))] dX2_freeMagic_3 rfl (by decide) rfl rfl ?_
  refine g_lv [2, 3, 1, 0] rfl ?_
  refine wk_X2_freeMagic_L4 hC hr hk _ hP0 _ 600 _ _ _
theorem cn_X2_freeMagic (l : Launch) (P0 : Nat) (hP0 : fIsH P0) (a1 : Int) (M : fMem) : fMt l vwCl TB yX2_freeMagic cX2_freeMagic 4 (some .int) 0 0 0 (fun ad => [.ref (ad P0), .int (fI a1)]) M (dn_X2_freeMagic P0 a1 M) :=
  fMt.of (by decide +kernel) (fun _ => Nat.le_of_ble_eq_true rfl) (fun p e s m args below meth c D aC ad hC hr hk => wk_X2_freeMagic hC hr hk P0 hP0 a1 M)
def dn_X2_openBranchWith (P0 : Nat) (a1 : Int) (a2 : Int) (M : fMem) : fOp :=
  fGt M P0 10 (fun x1 => fGt M P0 10 (fun x2 => fPt M P0 10 (x2 + 1) (fun M3 => fWr M3 (P0 + 6) 6 x1 a1 (fun M4 => fWr M4 (P0 + 7) 6 x1 a2 (fun M5 => fWr M5 (P0 + 9) 6 x1 a1 (fun M6 => some (x1, M6)))))))
set_option maxRecDepth 100000 in
set_option maxHeartbeats 4000000 in
theorem wk_X2_openBranchWith {l : Launch} {p : Program} {e : Env} {s : State} {m : MethodId} {args : Array Value} {below : List Frame} {meth : Method} {c : Code} {D : va_G} {aC : Nat → ClassId} {ad : Nat → Nat} (hC : fCx p s m args c vwCl D aC TB ad (fFr ad TB) goodTs cX2_openBranchWith RX2 4) (hr : meth.sig.returnType = some .int) (hk : meth.locks = false) (P0 : Nat) (hP0 : fIsH P0) (a1 : Int) (a2 : Int) (M : fMem) : GM l p e s m args below meth c D aC ad 4 0 0 0 0 [(0, .ref (ad P0)), (1, .int (fI a1)), (2, .int (fI a2))] [] M (dn_X2_openBranchWith P0 a1 a2 M) := by
  unfold dn_X2_openBranchWith
  refine g_aload_n hC 0 1 rfl dX2_openBranchWith_0 rfl rfl ?_
  refine g_getI hC 4 inX2 rfl 10 (by decide) gw_99 rfl (tb_H hP0) rfl dX2_openBranchWith_1 rfl (fun x1 => ?_)
  refine g_istore_n hC 5 [(3, .int (fI x1)), (0, .ref (ad P0)), (1, .int (fI a1)), (2, .int (fI a2))] dX2_openBranchWith_4 rfl (by decide) rfl rfl ?_
  refine g_aload_n hC 1 6 rfl dX2_openBranchWith_5 rfl rfl ?_
  refine g_dup hC 7 dX2_openBranchWith_6 rfl rfl ?_
  refine g_getI hC 10 inX2 rfl 10 (by decide) gw_99 rfl (tb_H hP0) rfl dX2_openBranchWith_7 rfl (fun x2 => ?_)
  refine g_iconst hC 11 dX2_openBranchWith_10 rfl ?_
  refine g_iadd hC 12 dX2_openBranchWith_11 rfl ?_
  refine g_putI hC 15 tyX2 tyX2_ok nmX2 inX2 rfl 10 (by decide) gw_99 rfl rfl (by decide +kernel) (tb_H hP0) rfl dX2_openBranchWith_12 rfl (fun M3 => ?_)
  refine g_aload_n hC 1 16 rfl dX2_openBranchWith_15 rfl rfl ?_
  refine g_getA hC 19 inX2 rfl 6 (by decide) gw_95 rfl (tb_H hP0) rfl dX2_openBranchWith_16 rfl ?_
  refine g_iload_n hC 0 20 rfl dX2_openBranchWith_19 rfl rfl ?_
  refine g_iload_n hC 2 21 rfl dX2_openBranchWith_20 rfl rfl ?_
  refine g_iast hC 22 (tb_H_6 hP0) (by decide) dX2_openBranchWith_21 rfl (fun M4 => ?_)
  refine g_aload_n hC 1 23 rfl dX2_openBranchWith_22 rfl rfl ?_
  refine g_getA hC 26 inX2 rfl 7 (by decide) gw_96 rfl (tb_H hP0) rfl dX2_openBranchWith_23 rfl ?_
  refine g_iload_n hC 0 27 rfl dX2_openBranchWith_26 rfl rfl ?_
  refine g_iload_n hC 3 28 rfl dX2_openBranchWith_27 rfl rfl ?_
  refine g_iast hC 29 (tb_H_7 hP0) (by decide) dX2_openBranchWith_28 rfl (fun M5 => ?_)
  refine g_aload_n hC 1 30 rfl dX2_openBranchWith_29 rfl rfl ?_
  refine g_getA hC 33 inX2 rfl 9 (by decide) gw_98 rfl (tb_H hP0) rfl dX2_openBranchWith_30 rfl ?_
  refine g_iload_n hC 0 34 rfl dX2_openBranchWith_33 rfl rfl ?_
  refine g_iload_n hC 2 35 rfl dX2_openBranchWith_34 rfl rfl ?_
  refine g_iast hC 36 (tb_H_9 hP0) (by decide) dX2_openBranchWith_35 rfl (fun M6 => ?_)
  refine g_iload_n hC 0 37 rfl dX2_openBranchWith_36 rfl rfl ?_
  exact g_ireturn hC hr hk dX2_openBranchWith_37
theorem cn_X2_openBranchWith (l : Launch) (P0 : Nat) (hP0 : fIsH P0) (a1 : Int) (a2 : Int) (M : fMem) : fMt l vwCl TB yX2_openBranchWith cX2_openBranchWith 4 (some .int) 0 0 0 (fun ad => [.ref (ad P0), .int (fI a1), .int (fI a2)]) M (dn_X2_openBranchWith P0 a1 a2 M) :=
  fMt.of (by decide +kernel) (fun _ => Nat.le_of_ble_eq_true rfl) (fun p e s m args below meth c D aC ad hC hr hk => wk_X2_openBranchWith hC hr hk P0 hP0 a1 a2 M)
def dn_X2_openBranch (P0 : Nat) (a1 : Int) (M : fMem) : fOp :=
  fCl (dn_X2_freeMagic P0 a1 M) (fun v1 M2 => fCl (dn_X2_openBranchWith P0 a1 v1 M2) (fun v3 M4 => some (v3, M4)))
set_option maxRecDepth 100000 in
set_option maxHeartbeats 4000000 in
theorem wk_X2_openBranch {l : Launch} {p : Program} {e : Env} {s : State} {m : MethodId} {args : Array Value} {below : List Frame} {meth : Method} {c : Code} {D : va_G} {aC : Nat → ClassId} {ad : Nat → Nat} (hC : fCx p s m args c vwCl D aC TB ad (fFr ad TB) goodTs cX2_openBranch RX2 2) (hr : meth.sig.returnType = some .int) (hk : meth.locks = false) (P0 : Nat) (hP0 : fIsH P0) (a1 : Int) (M : fMem) : GM l p e s m args below meth c D aC ad 2 1 23 0 0 [(0, .ref (ad P0)), (1, .int (fI a1))] [] M (dn_X2_openBranch P0 a1 M) := by
  unfold dn_X2_openBranch
  refine g_aload_n hC 0 1 rfl dX2_openBranch_0 rfl rfl ?_
  refine g_iload_n hC 1 2 rfl dX2_openBranch_1 rfl rfl ?_
  refine g_aload_n hC 0 3 rfl dX2_openBranch_2 rfl rfl ?_
  refine g_iload_n hC 1 4 rfl dX2_openBranch_3 rfl rfl ?_
  refine g_cV hC 7 1 [.int (fI a1)] [.int (fI a1), .ref (ad P0)] (cn_X2_freeMagic l P0 hP0 a1 _) rfl rfl (tb_H hP0) rfl gw_352 gw_355 gw_60 gw_354 gw_16 (by decide +kernel) rfl ⟨Nat.le_of_ble_eq_true rfl, Nat.le_of_ble_eq_true rfl⟩ (Nat.le_of_ble_eq_true rfl) ⟨Nat.zero_le _, Nat.zero_le _⟩ dX2_openBranch_4 rfl (fun v1 => .int (fI v1) :: [.int (fI a1), .ref (ad P0)]) (fun _ => rfl) (fun v1 M2 => ?_)
  refine g_cV hC 10 2 [.int (fI a1), .int (fI v1)] [] (cn_X2_openBranchWith l P0 hP0 a1 v1 _) rfl rfl (tb_H hP0) rfl gw_356 gw_359 gw_60 gw_358 gw_17 (by decide +kernel) rfl ⟨Nat.le_of_ble_eq_true rfl, Nat.le_of_ble_eq_true rfl⟩ (Nat.le_of_ble_eq_true rfl) ⟨Nat.zero_le _, Nat.zero_le _⟩ dX2_openBranch_7 rfl (fun v3 => .int (fI v3) :: []) (fun _ => rfl) (fun v3 M4 => ?_)
  exact g_ireturn hC hr hk dX2_openBranch_10
theorem cn_X2_openBranch (l : Launch) (P0 : Nat) (hP0 : fIsH P0) (a1 : Int) (M : fMem) : fMt l vwCl TB yX2_openBranch cX2_openBranch 2 (some .int) 1 23 0 (fun ad => [.ref (ad P0), .int (fI a1)]) M (dn_X2_openBranch P0 a1 M) :=
  fMt.of (by decide +kernel) (fun _ => Nat.le_of_ble_eq_true rfl) (fun p e s m args below meth c D aC ad hC hr hk => wk_X2_openBranch hC hr hk P0 hP0 a1 M)
def dn_X2_openVendorBranch (P0 : Nat) (M : fMem) : fOp :=
  fCl (dn_X2_openBranchWith P0 0 1 M) (fun v1 M2 => fPt M2 P0 11 v1 (fun M3 => some (0, M3)))
set_option maxRecDepth 100000 in
set_option maxHeartbeats 4000000 in
theorem wk_X2_openVendorBranch {l : Launch} {p : Program} {e : Env} {s : State} {m : MethodId} {args : Array Value} {below : List Frame} {meth : Method} {c : Code} {D : va_G} {aC : Nat → ClassId} {ad : Nat → Nat} (hC : fCx p s m args c vwCl D aC TB ad (fFr ad TB) goodTs cX2_openVendorBranch RX2 1) (hr : meth.sig.returnType = none) (hk : meth.locks = false) (P0 : Nat) (hP0 : fIsH P0) (M : fMem) : GM l p e s m args below meth c D aC ad 1 1 23 2 0 [(0, .ref (ad P0))] [] M (dn_X2_openVendorBranch P0 M) := by
  unfold dn_X2_openVendorBranch
  refine g_aload_n hC 0 1 rfl dX2_openVendorBranch_0 rfl rfl ?_
  refine g_aload_n hC 0 2 rfl dX2_openVendorBranch_1 rfl rfl ?_
  refine g_iconst hC 3 dX2_openVendorBranch_2 rfl ?_
  refine g_iconst hC 4 dX2_openVendorBranch_3 rfl ?_
  refine g_cV hC 7 2 [.int (fI 0), .int (fI 1)] [.ref (ad P0)] (cn_X2_openBranchWith l P0 hP0 0 1 _) rfl rfl (tb_H hP0) rfl gw_356 gw_359 gw_60 gw_358 gw_17 (by decide +kernel) rfl ⟨Nat.le_of_ble_eq_true rfl, Nat.le_of_ble_eq_true rfl⟩ (Nat.le_of_ble_eq_true rfl) ⟨Nat.zero_le _, Nat.zero_le _⟩ dX2_openVendorBranch_4 rfl (fun v1 => .int (fI v1) :: [.ref (ad P0)]) (fun _ => rfl) (fun v1 M2 => ?_)
  refine g_putI hC 10 tyX2 tyX2_ok nmX2 inX2 rfl 11 (by decide) gw_100 rfl rfl (by decide +kernel) (tb_H hP0) rfl dX2_openVendorBranch_7 rfl (fun M3 => ?_)
  exact g_return hC hr hk dX2_openVendorBranch_10
theorem cn_X2_openVendorBranch (l : Launch) (P0 : Nat) (hP0 : fIsH P0) (M : fMem) : fMt l vwCl TB yX2_openVendorBranch cX2_openVendorBranch 1 (none) 1 23 2 (fun ad => [.ref (ad P0)]) M (dn_X2_openVendorBranch P0 M) :=
  fMt.of (by decide +kernel) (fun _ => Nat.le_of_ble_eq_true rfl) (fun p e s m args below meth c D aC ad hC hr hk => wk_X2_openVendorBranch hC hr hk P0 hP0 M)
def dn_X2_depth_L12B (P0 : Nat) (a1 : Int) (r : Int → Int → Int → fMem → fOp) (a2 a3 a4 : Int) (M : fMem) : fOp :=
  fLe 6 a4 (some (a2, M)) (fEq a3 0 (some (a2, M)) (fRd M (P0 + 6) 6 a3 (fun x2 => fRd M (P0 + 3) 24 x2 (fun x3 => r (a2 + 1) x3 (a4 + 1) M))))
def dn_X2_depth_L12 (P0 : Nat) (a1 : Int) : Nat → Int → Int → Int → fMem → fOp
  | 0, _, _, _, _ => none
  | n + 1, a2, a3, a4, M => dn_X2_depth_L12B P0 a1 (fun a2 a3 a4 M => dn_X2_depth_L12 P0 a1 n a2 a3 a4 M) a2 a3 a4 M
set_option maxRecDepth 100000 in
set_option maxHeartbeats 4000000 in
theorem wk_X2_depth_L12B {l : Launch} {p : Program} {e : Env} {s : State} {m : MethodId} {args : Array Value} {below : List Frame} {meth : Method} {c : Code} {D : va_G} {aC : Nat → ClassId} {ad : Nat → Nat} (hC : fCx p s m args c vwCl D aC TB ad (fFr ad TB) goodTs cX2_depth RX2 5) (hr : meth.sig.returnType = some .int) (hk : meth.locks = false) (P0 : Nat) (hP0 : fIsH P0) (a1 : Int) (r : Int → Int → Int → fMem → fOp) (hrc : ∀ (a2 a3 a4 : Int) (M : fMem), GM l p e s m args below meth c D aC ad 5 0 0 0 12 [(0, .ref (ad P0)), (1, .int (fI a1)), (2, .int (fI a2)), (3, .int (fI a3)), (4, .int (fI a4))] [] M (r a2 a3 a4 M)) (a2 a3 a4 : Int) (M : fMem) : GM l p e s m args below meth c D aC ad 5 0 0 0 12 [(0, .ref (ad P0)), (1, .int (fI a1)), (2, .int (fI a2)), (3, .int (fI a3)), (4, .int (fI a4))] [] M (dn_X2_depth_L12B P0 a1 r a2 a3 a4 M) := by
  unfold dn_X2_depth_L12B
  refine g_iload hC 4 14 rfl dX2_depth_12 rfl ?_
  refine g_bipush hC 16 dX2_depth_14 rfl (by decide +kernel) ?_
  refine g_icmp_ge hC 44 19 dX2_depth_16 rfl rfl ?_ ?_
  · refine g_iload_n hC 2 45 rfl dX2_depth_44 rfl rfl ?_
    exact g_ireturn hC hr hk dX2_depth_45
  · refine g_iload_n hC 3 20 rfl dX2_depth_19 rfl rfl ?_
    refine g_if_eq hC 44 23 dX2_depth_20 rfl rfl ?_ ?_
    · refine g_iload_n hC 2 45 rfl dX2_depth_44 rfl rfl ?_
      exact g_ireturn hC hr hk dX2_depth_45
    · refine g_aload_n hC 0 24 rfl dX2_depth_23 rfl rfl ?_
      refine g_getA hC 27 inX2 rfl 2 (by decide) gw_90 rfl (tb_H hP0) rfl dX2_depth_24 rfl ?_
      refine g_aload_n hC 0 28 rfl dX2_depth_27 rfl rfl ?_
      refine g_getA hC 31 inX2 rfl 6 (by decide) gw_95 rfl (tb_H hP0) rfl dX2_depth_28 rfl ?_
      refine g_iload_n hC 3 32 rfl dX2_depth_31 rfl rfl ?_
      refine g_iald hC 33 (tb_H_6 hP0) (by decide) dX2_depth_32 rfl (fun x2 => ?_)
      refine g_iald hC 34 (tb_H_3 hP0) (by decide) dX2_depth_33 rfl (fun x3 => ?_)
      refine g_istore_n hC 35 [(3, .int (fI x3)), (0, .ref (ad P0)), (1, .int (fI a1)), (2, .int (fI a2)), (4, .int (fI a4))] dX2_depth_34 rfl (by decide) rfl rfl ?_
      refine g_iinc hC 3 38 [(2, .int (fI (a2 + 1))), (3, .int (fI x3)), (0, .ref (ad P0)), (1, .int (fI a1)), (4, .int (fI a4))] rfl dX2_depth_35 (by decide) rfl rfl ?_
      refine g_iinc hC 4 41 [(4, .int (fI (a4 + 1))), (2, .int (fI (a2 + 1))), (3, .int (fI x3)), (0, .ref (ad P0)), (1, .int (fI a1))] rfl dX2_depth_38 (by decide) rfl rfl ?_
      refine g_goto hC 12 dX2_depth_41 rfl ?_
      refine g_lv [3, 4, 1, 2, 0] rfl ?_
      exact hrc _ _ _ _
set_option maxRecDepth 100000 in
set_option maxHeartbeats 4000000 in
theorem wk_X2_depth_L12 {l : Launch} {p : Program} {e : Env} {s : State} {m : MethodId} {args : Array Value} {below : List Frame} {meth : Method} {c : Code} {D : va_G} {aC : Nat → ClassId} {ad : Nat → Nat} (hC : fCx p s m args c vwCl D aC TB ad (fFr ad TB) goodTs cX2_depth RX2 5) (hr : meth.sig.returnType = some .int) (hk : meth.locks = false) (P0 : Nat) (hP0 : fIsH P0) (a1 : Int) (n : Nat) : ∀ (a2 a3 a4 : Int) (M : fMem), GM l p e s m args below meth c D aC ad 5 0 0 0 12 [(0, .ref (ad P0)), (1, .int (fI a1)), (2, .int (fI a2)), (3, .int (fI a3)), (4, .int (fI a4))] [] M (dn_X2_depth_L12 P0 a1 n a2 a3 a4 M) := by
  induction n with
  | zero => intro a2 a3 a4 M; exact g_none
  | succ n ih => intro a2 a3 a4 M; exact wk_X2_depth_L12B hC hr hk P0 hP0 a1 (fun a2 a3 a4 M => dn_X2_depth_L12 P0 a1 n a2 a3 a4 M) ih a2 a3 a4 M
def dn_X2_depth (P0 : Nat) (a1 : Int) (M : fMem) : fOp :=
  fRd M (P0 + 3) 24 a1 (fun x1 => dn_X2_depth_L12 P0 a1 600 0 x1 1 M)
set_option maxRecDepth 100000 in
set_option maxHeartbeats 4000000 in
theorem wk_X2_depth {l : Launch} {p : Program} {e : Env} {s : State} {m : MethodId} {args : Array Value} {below : List Frame} {meth : Method} {c : Code} {D : va_G} {aC : Nat → ClassId} {ad : Nat → Nat} (hC : fCx p s m args c vwCl D aC TB ad (fFr ad TB) goodTs cX2_depth RX2 5) (hr : meth.sig.returnType = some .int) (hk : meth.locks = false) (P0 : Nat) (hP0 : fIsH P0) (a1 : Int) (M : fMem) : GM l p e s m args below meth c D aC ad 5 0 0 0 0 [(0, .ref (ad P0)), (1, .int (fI a1))] [] M (dn_X2_depth P0 a1 M) := by
  unfold dn_X2_depth
  refine g_iconst hC 1 dX2_depth_0 rfl ?_
  refine g_istore_n hC 2 [(2, .int (fI 0)), (0, .ref (ad P0)), (1, .int (fI a1))] dX2_depth_1 rfl (by decide) rfl rfl ?_
  refine g_aload_n hC 1 3 rfl dX2_depth_2 rfl rfl ?_
  refine g_getA hC 6 inX2 rfl 2 (by decide) gw_90 rfl (tb_H hP0) rfl dX2_depth_3 rfl ?_
  refine g_iload_n hC 2 7 rfl dX2_depth_6 rfl rfl ?_
  refine g_iald hC 8 (tb_H_3 hP0) (by decide) dX2_depth_7 rfl (fun x1 => ?_)
  refine g_istore_n hC 9 [(3, .int (fI x1)), (2, .int (fI 0)), (0, .ref (ad P0)), (1, .int (fI a1))] dX2_depth_8 rfl (by decide) rfl rfl ?_
  refine g_iconst hC 10 dX2_depth_9 rfl ?_
  refine g_istore hC 12 [(4, .int (fI 1)), (3, .int (fI x1)), (2, .int (fI 0)), (0, .ref (ad P0)), (1, .int (fI a1))] dX2_depth_10 (by decide) rfl rfl ?_
  refine g_lv [3, 4, 2, 1, 0] rfl ?_
  refine wk_X2_depth_L12 hC hr hk _ hP0 _ 600 _ _ _ _
theorem cn_X2_depth (l : Launch) (P0 : Nat) (hP0 : fIsH P0) (a1 : Int) (M : fMem) : fMt l vwCl TB yX2_depth cX2_depth 5 (some .int) 0 0 0 (fun ad => [.ref (ad P0), .int (fI a1)]) M (dn_X2_depth P0 a1 M) :=
  fMt.of (by decide +kernel) (fun _ => Nat.le_of_ble_eq_true rfl) (fun p e s m args below meth c D aC ad hC hr hk => wk_X2_depth hC hr hk P0 hP0 a1 M)
def dn_X2_numberPart_L25B (P0 : Nat) (a1 a2 a3 a4 : Int) (r : Int → Int → fMem → fOp) (x52 : Int → Int → fMem → fOp) (a5 a6 : Int) (M : fMem) : fOp :=
  fLe a6 a4 (x52 a5 a6 M) (fRd M (P0 + 3) 24 a5 (fun x4 => fRd M (P0 + 6) 6 x4 (fun x5 => r x5 (a6 + (-1)) M)))
def dn_X2_numberPart_L25 (P0 : Nat) (a1 a2 a3 a4 : Int) (x52 : Int → Int → fMem → fOp) : Nat → Int → Int → fMem → fOp
  | 0, _, _, _ => none
  | n + 1, a5, a6, M => dn_X2_numberPart_L25B P0 a1 a2 a3 a4 (fun a5 a6 M => dn_X2_numberPart_L25 P0 a1 a2 a3 a4 x52 n a5 a6 M) x52 a5 a6 M
set_option maxRecDepth 100000 in
set_option maxHeartbeats 4000000 in
theorem wk_X2_numberPart_L25B {l : Launch} {p : Program} {e : Env} {s : State} {m : MethodId} {args : Array Value} {below : List Frame} {meth : Method} {c : Code} {D : va_G} {aC : Nat → ClassId} {ad : Nat → Nat} (hC : fCx p s m args c vwCl D aC TB ad (fFr ad TB) goodTs cX2_numberPart RX2 7) (hr : meth.sig.returnType = some .int) (hk : meth.locks = false) (P0 : Nat) (hP0 : fIsH P0) (a1 a2 a3 a4 : Int) (r : Int → Int → fMem → fOp) (hrc : ∀ (a5 a6 : Int) (M : fMem), GM l p e s m args below meth c D aC ad 7 1 24 0 25 [(0, .ref (ad P0)), (1, .int (fI a1)), (2, .int (fI a2)), (3, .int (fI a3)), (4, .int (fI a4)), (5, .int (fI a5)), (6, .int (fI a6))] [] M (r a5 a6 M)) (x52 : Int → Int → fMem → fOp) (hx52 : ∀ (y5 y6 : Int) (M : fMem), GM l p e s m args below meth c D aC ad 7 1 24 0 52 [(0, .ref (ad P0)), (1, .int (fI a1)), (2, .int (fI a2)), (3, .int (fI a3)), (4, .int (fI a4)), (5, .int (fI y5)), (6, .int (fI y6))] [] M (x52 y5 y6 M)) (a5 a6 : Int) (M : fMem) : GM l p e s m args below meth c D aC ad 7 1 24 0 25 [(0, .ref (ad P0)), (1, .int (fI a1)), (2, .int (fI a2)), (3, .int (fI a3)), (4, .int (fI a4)), (5, .int (fI a5)), (6, .int (fI a6))] [] M (dn_X2_numberPart_L25B P0 a1 a2 a3 a4 r x52 a5 a6 M) := by
  unfold dn_X2_numberPart_L25B
  refine g_iload hC 6 27 rfl dX2_numberPart_25 rfl ?_
  refine g_iload hC 4 29 rfl dX2_numberPart_27 rfl ?_
  refine g_icmp_le hC 52 32 dX2_numberPart_29 rfl rfl ?_ ?_
  · exact hx52 _ _ _
  · refine g_aload_n hC 0 33 rfl dX2_numberPart_32 rfl rfl ?_
    refine g_getA hC 36 inX2 rfl 6 (by decide) gw_95 rfl (tb_H hP0) rfl dX2_numberPart_33 rfl ?_
    refine g_aload_n hC 0 37 rfl dX2_numberPart_36 rfl rfl ?_
    refine g_getA hC 40 inX2 rfl 2 (by decide) gw_90 rfl (tb_H hP0) rfl dX2_numberPart_37 rfl ?_
    refine g_iload hC 5 42 rfl dX2_numberPart_40 rfl ?_
    refine g_iald hC 43 (tb_H_3 hP0) (by decide) dX2_numberPart_42 rfl (fun x4 => ?_)
    refine g_iald hC 44 (tb_H_6 hP0) (by decide) dX2_numberPart_43 rfl (fun x5 => ?_)
    refine g_istore hC 46 [(5, .int (fI x5)), (0, .ref (ad P0)), (1, .int (fI a1)), (2, .int (fI a2)), (3, .int (fI a3)), (4, .int (fI a4)), (6, .int (fI a6))] dX2_numberPart_44 (by decide) rfl rfl ?_
    refine g_iinc hC 6 49 [(6, .int (fI (a6 + (-1)))), (5, .int (fI x5)), (0, .ref (ad P0)), (1, .int (fI a1)), (2, .int (fI a2)), (3, .int (fI a3)), (4, .int (fI a4))] rfl dX2_numberPart_46 (by decide) rfl rfl ?_
    refine g_goto hC 25 dX2_numberPart_49 rfl ?_
    refine g_lv [2, 3, 4, 5, 6, 1, 0] rfl ?_
    exact hrc _ _ _
set_option maxRecDepth 100000 in
set_option maxHeartbeats 4000000 in
theorem wk_X2_numberPart_L25 {l : Launch} {p : Program} {e : Env} {s : State} {m : MethodId} {args : Array Value} {below : List Frame} {meth : Method} {c : Code} {D : va_G} {aC : Nat → ClassId} {ad : Nat → Nat} (hC : fCx p s m args c vwCl D aC TB ad (fFr ad TB) goodTs cX2_numberPart RX2 7) (hr : meth.sig.returnType = some .int) (hk : meth.locks = false) (P0 : Nat) (hP0 : fIsH P0) (a1 a2 a3 a4 : Int) (x52 : Int → Int → fMem → fOp) (hx52 : ∀ (y5 y6 : Int) (M : fMem), GM l p e s m args below meth c D aC ad 7 1 24 0 52 [(0, .ref (ad P0)), (1, .int (fI a1)), (2, .int (fI a2)), (3, .int (fI a3)), (4, .int (fI a4)), (5, .int (fI y5)), (6, .int (fI y6))] [] M (x52 y5 y6 M)) (n : Nat) : ∀ (a5 a6 : Int) (M : fMem), GM l p e s m args below meth c D aC ad 7 1 24 0 25 [(0, .ref (ad P0)), (1, .int (fI a1)), (2, .int (fI a2)), (3, .int (fI a3)), (4, .int (fI a4)), (5, .int (fI a5)), (6, .int (fI a6))] [] M (dn_X2_numberPart_L25 P0 a1 a2 a3 a4 x52 n a5 a6 M) := by
  induction n with
  | zero => intro a5 a6 M; exact g_none
  | succ n ih => intro a5 a6 M; exact wk_X2_numberPart_L25B hC hr hk P0 hP0 a1 a2 a3 a4 (fun a5 a6 M => dn_X2_numberPart_L25 P0 a1 a2 a3 a4 x52 n a5 a6 M) ih x52 hx52 a5 a6 M
def dn_X2_numberPart (P0 : Nat) (a1 : Int) (a2 : Int) (M : fMem) : fOp :=
  fCl (dn_X2_depth P0 a1 M) (fun v1 M2 => fDvI a2 2 (fun x3 => fLe x3 v1 (dn_X2_numberPart_L25 P0 a1 a2 v1 x3 (fun y6 y7 M8 => fRmI a2 2 (fun x9 => fEq x9 0 (fRd M8 (P0 + 3) 24 y6 (fun x11 => fRd M8 (P0 + 7) 6 x11 (fun x12 => some (x12, M8)))) (fRd M8 (P0 + 4) 24 y6 (fun x10 => some (x10, M8))))) 600 a1 v1 M2) (some (0, M2))))
set_option maxRecDepth 100000 in
set_option maxHeartbeats 4000000 in
theorem wk_X2_numberPart {l : Launch} {p : Program} {e : Env} {s : State} {m : MethodId} {args : Array Value} {below : List Frame} {meth : Method} {c : Code} {D : va_G} {aC : Nat → ClassId} {ad : Nat → Nat} (hC : fCx p s m args c vwCl D aC TB ad (fFr ad TB) goodTs cX2_numberPart RX2 7) (hr : meth.sig.returnType = some .int) (hk : meth.locks = false) (P0 : Nat) (hP0 : fIsH P0) (a1 : Int) (a2 : Int) (M : fMem) : GM l p e s m args below meth c D aC ad 7 1 24 0 0 [(0, .ref (ad P0)), (1, .int (fI a1)), (2, .int (fI a2))] [] M (dn_X2_numberPart P0 a1 a2 M) := by
  unfold dn_X2_numberPart
  refine g_aload_n hC 0 1 rfl dX2_numberPart_0 rfl rfl ?_
  refine g_iload_n hC 1 2 rfl dX2_numberPart_1 rfl rfl ?_
  refine g_cV hC 5 1 [.int (fI a1)] [] (cn_X2_depth l P0 hP0 a1 _) rfl rfl (tb_H hP0) rfl gw_483 gw_486 gw_60 gw_485 gw_32 (by decide +kernel) rfl ⟨Nat.le_of_ble_eq_true rfl, Nat.le_of_ble_eq_true rfl⟩ (Nat.le_of_ble_eq_true rfl) ⟨Nat.zero_le _, Nat.zero_le _⟩ dX2_numberPart_2 rfl (fun v1 => .int (fI v1) :: []) (fun _ => rfl) (fun v1 M2 => ?_)
  refine g_istore_n hC 6 [(3, .int (fI v1)), (0, .ref (ad P0)), (1, .int (fI a1)), (2, .int (fI a2))] dX2_numberPart_5 rfl (by decide) rfl rfl ?_
  refine g_iload_n hC 3 7 rfl dX2_numberPart_6 rfl rfl ?_
  refine g_iconst hC 8 dX2_numberPart_7 rfl ?_
  refine g_idiv hC 9 dX2_numberPart_8 rfl (fun x3 => ?_)
  refine g_istore hC 11 [(4, .int (fI x3)), (3, .int (fI v1)), (0, .ref (ad P0)), (1, .int (fI a1)), (2, .int (fI a2))] dX2_numberPart_9 (by decide) rfl rfl ?_
  refine g_iload hC 0 13 rfl dX2_numberPart_11 rfl ?_
  refine g_iload_n hC 1 14 rfl dX2_numberPart_13 rfl rfl ?_
  refine g_icmp_le hC 19 17 dX2_numberPart_14 rfl rfl ?_ ?_
  · refine g_iload_n hC 3 20 rfl dX2_numberPart_19 rfl rfl ?_
    refine g_istore hC 22 [(5, .int (fI a1)), (4, .int (fI x3)), (3, .int (fI v1)), (0, .ref (ad P0)), (1, .int (fI a1)), (2, .int (fI a2))] dX2_numberPart_20 (by decide) rfl rfl ?_
    refine g_iload_n hC 2 23 rfl dX2_numberPart_22 rfl rfl ?_
    refine g_istore hC 25 [(6, .int (fI v1)), (5, .int (fI a1)), (4, .int (fI x3)), (3, .int (fI v1)), (0, .ref (ad P0)), (1, .int (fI a1)), (2, .int (fI a2))] dX2_numberPart_23 (by decide) rfl rfl ?_
    refine g_lv [4, 5, 6, 3, 2, 1, 0] rfl ?_
    refine wk_X2_numberPart_L25 hC hr hk _ hP0 _ _ _ _ _ (fun y6 y7 M8 => ?_) 600 _ _ _
    · refine g_iload_n hC 2 53 rfl dX2_numberPart_52 rfl rfl ?_
      refine g_iconst hC 54 dX2_numberPart_53 rfl ?_
      refine g_irem hC 55 dX2_numberPart_54 rfl (fun x9 => ?_)
      refine g_if_ne hC 73 58 dX2_numberPart_55 rfl rfl ?_ ?_
      · refine g_aload_n hC 0 74 rfl dX2_numberPart_73 rfl rfl ?_
        refine g_getA hC 77 inX2 rfl 3 (by decide) gw_91 rfl (tb_H hP0) rfl dX2_numberPart_74 rfl ?_
        refine g_iload hC 5 79 rfl dX2_numberPart_77 rfl ?_
        refine g_iald hC 80 (tb_H_4 hP0) (by decide) dX2_numberPart_79 rfl (fun x10 => ?_)
        exact g_ireturn hC hr hk dX2_numberPart_80
      · refine g_aload_n hC 0 59 rfl dX2_numberPart_58 rfl rfl ?_
        refine g_getA hC 62 inX2 rfl 7 (by decide) gw_96 rfl (tb_H hP0) rfl dX2_numberPart_59 rfl ?_
        refine g_aload_n hC 0 63 rfl dX2_numberPart_62 rfl rfl ?_
        refine g_getA hC 66 inX2 rfl 2 (by decide) gw_90 rfl (tb_H hP0) rfl dX2_numberPart_63 rfl ?_
        refine g_iload hC 5 68 rfl dX2_numberPart_66 rfl ?_
        refine g_iald hC 69 (tb_H_3 hP0) (by decide) dX2_numberPart_68 rfl (fun x11 => ?_)
        refine g_iald hC 70 (tb_H_7 hP0) (by decide) dX2_numberPart_69 rfl (fun x12 => ?_)
        refine g_goto hC 80 dX2_numberPart_70 rfl ?_
        exact g_ireturn hC hr hk dX2_numberPart_80
  · refine g_iconst hC 18 dX2_numberPart_17 rfl ?_
    exact g_ireturn hC hr hk dX2_numberPart_18
theorem cn_X2_numberPart (l : Launch) (P0 : Nat) (hP0 : fIsH P0) (a1 : Int) (a2 : Int) (M : fMem) : fMt l vwCl TB yX2_numberPart cX2_numberPart 7 (some .int) 1 24 0 (fun ad => [.ref (ad P0), .int (fI a1), .int (fI a2)]) M (dn_X2_numberPart P0 a1 a2 M) :=
  fMt.of (by decide +kernel) (fun _ => Nat.le_of_ble_eq_true rfl) (fun p e s m args below meth c D aC ad hC hr hk => wk_X2_numberPart hC hr hk P0 hP0 a1 a2 M)
def dn_X2_nextOnTrunk_L4B (P0 : Nat) (a1 : Int) (r : Int → fMem → fOp) (a2 : Int) (M : fMem) : fOp :=
  fGt M P0 5 (fun x1 => fLe x1 a2 (some ((-1), M)) (fRd M (P0 + 3) 24 a2 (fun x2 => fEq x2 0 (some (a2, M)) (r (a2 + 1) M))))
def dn_X2_nextOnTrunk_L4 (P0 : Nat) (a1 : Int) : Nat → Int → fMem → fOp
  | 0, _, _ => none
  | n + 1, a2, M => dn_X2_nextOnTrunk_L4B P0 a1 (fun a2 M => dn_X2_nextOnTrunk_L4 P0 a1 n a2 M) a2 M
set_option maxRecDepth 100000 in
set_option maxHeartbeats 4000000 in
theorem wk_X2_nextOnTrunk_L4B {l : Launch} {p : Program} {e : Env} {s : State} {m : MethodId} {args : Array Value} {below : List Frame} {meth : Method} {c : Code} {D : va_G} {aC : Nat → ClassId} {ad : Nat → Nat} (hC : fCx p s m args c vwCl D aC TB ad (fFr ad TB) goodTs cX2_nextOnTrunk RX2 3) (hr : meth.sig.returnType = some .int) (hk : meth.locks = false) (P0 : Nat) (hP0 : fIsH P0) (a1 : Int) (r : Int → fMem → fOp) (hrc : ∀ (a2 : Int) (M : fMem), GM l p e s m args below meth c D aC ad 3 0 0 0 4 [(0, .ref (ad P0)), (1, .int (fI a1)), (2, .int (fI a2))] [] M (r a2 M)) (a2 : Int) (M : fMem) : GM l p e s m args below meth c D aC ad 3 0 0 0 4 [(0, .ref (ad P0)), (1, .int (fI a1)), (2, .int (fI a2))] [] M (dn_X2_nextOnTrunk_L4B P0 a1 r a2 M) := by
  unfold dn_X2_nextOnTrunk_L4B
  refine g_iload_n hC 2 5 rfl dX2_nextOnTrunk_4 rfl rfl ?_
  refine g_aload_n hC 0 6 rfl dX2_nextOnTrunk_5 rfl rfl ?_
  refine g_getI hC 9 inX2 rfl 5 (by decide) gw_93 rfl (tb_H hP0) rfl dX2_nextOnTrunk_6 rfl (fun x1 => ?_)
  refine g_icmp_ge hC 29 12 dX2_nextOnTrunk_9 rfl rfl ?_ ?_
  · refine g_iconst hC 30 dX2_nextOnTrunk_29 rfl ?_
    exact g_ireturn hC hr hk dX2_nextOnTrunk_30
  · refine g_aload_n hC 0 13 rfl dX2_nextOnTrunk_12 rfl rfl ?_
    refine g_getA hC 16 inX2 rfl 2 (by decide) gw_90 rfl (tb_H hP0) rfl dX2_nextOnTrunk_13 rfl ?_
    refine g_iload_n hC 2 17 rfl dX2_nextOnTrunk_16 rfl rfl ?_
    refine g_iald hC 18 (tb_H_3 hP0) (by decide) dX2_nextOnTrunk_17 rfl (fun x2 => ?_)
    refine g_if_ne hC 23 21 dX2_nextOnTrunk_18 rfl rfl ?_ ?_
    · refine g_iinc hC 2 26 [(2, .int (fI (a2 + 1))), (0, .ref (ad P0)), (1, .int (fI a1))] rfl dX2_nextOnTrunk_23 (by decide) rfl rfl ?_
      refine g_goto hC 4 dX2_nextOnTrunk_26 rfl ?_
      refine g_lv [1, 2, 0] rfl ?_
      exact hrc _ _
    · refine g_iload_n hC 2 22 rfl dX2_nextOnTrunk_21 rfl rfl ?_
      exact g_ireturn hC hr hk dX2_nextOnTrunk_22
set_option maxRecDepth 100000 in
set_option maxHeartbeats 4000000 in
theorem wk_X2_nextOnTrunk_L4 {l : Launch} {p : Program} {e : Env} {s : State} {m : MethodId} {args : Array Value} {below : List Frame} {meth : Method} {c : Code} {D : va_G} {aC : Nat → ClassId} {ad : Nat → Nat} (hC : fCx p s m args c vwCl D aC TB ad (fFr ad TB) goodTs cX2_nextOnTrunk RX2 3) (hr : meth.sig.returnType = some .int) (hk : meth.locks = false) (P0 : Nat) (hP0 : fIsH P0) (a1 : Int) (n : Nat) : ∀ (a2 : Int) (M : fMem), GM l p e s m args below meth c D aC ad 3 0 0 0 4 [(0, .ref (ad P0)), (1, .int (fI a1)), (2, .int (fI a2))] [] M (dn_X2_nextOnTrunk_L4 P0 a1 n a2 M) := by
  induction n with
  | zero => intro a2 M; exact g_none
  | succ n ih => intro a2 M; exact wk_X2_nextOnTrunk_L4B hC hr hk P0 hP0 a1 (fun a2 M => dn_X2_nextOnTrunk_L4 P0 a1 n a2 M) ih a2 M
def dn_X2_nextOnTrunk (P0 : Nat) (a1 : Int) (M : fMem) : fOp :=
  dn_X2_nextOnTrunk_L4 P0 a1 600 (a1 + 1) M
set_option maxRecDepth 100000 in
set_option maxHeartbeats 4000000 in
theorem wk_X2_nextOnTrunk {l : Launch} {p : Program} {e : Env} {s : State} {m : MethodId} {args : Array Value} {below : List Frame} {meth : Method} {c : Code} {D : va_G} {aC : Nat → ClassId} {ad : Nat → Nat} (hC : fCx p s m args c vwCl D aC TB ad (fFr ad TB) goodTs cX2_nextOnTrunk RX2 3) (hr : meth.sig.returnType = some .int) (hk : meth.locks = false) (P0 : Nat) (hP0 : fIsH P0) (a1 : Int) (M : fMem) : GM l p e s m args below meth c D aC ad 3 0 0 0 0 [(0, .ref (ad P0)), (1, .int (fI a1))] [] M (dn_X2_nextOnTrunk P0 a1 M) := by
  unfold dn_X2_nextOnTrunk
  refine g_iload_n hC 1 1 rfl dX2_nextOnTrunk_0 rfl rfl ?_
  refine g_iconst hC 2 dX2_nextOnTrunk_1 rfl ?_
  refine g_iadd hC 3 dX2_nextOnTrunk_2 rfl ?_
  refine g_istore_n hC 4 [(2, .int (fI (a1 + 1))), (0, .ref (ad P0)), (1, .int (fI a1))] dX2_nextOnTrunk_3 rfl (by decide) rfl rfl ?_
  refine g_lv [1, 2, 0] rfl ?_
  refine wk_X2_nextOnTrunk_L4 hC hr hk _ hP0 _ 600 _ _
theorem cn_X2_nextOnTrunk (l : Launch) (P0 : Nat) (hP0 : fIsH P0) (a1 : Int) (M : fMem) : fMt l vwCl TB yX2_nextOnTrunk cX2_nextOnTrunk 3 (some .int) 0 0 0 (fun ad => [.ref (ad P0), .int (fI a1)]) M (dn_X2_nextOnTrunk P0 a1 M) :=
  fMt.of (by decide +kernel) (fun _ => Nat.le_of_ble_eq_true rfl) (fun p e s m args below meth c D aC ad hC hr hk => wk_X2_nextOnTrunk hC hr hk P0 hP0 a1 M)
def dn_X2_keptAgainst (P0 : Nat) (a1 : Int) (M : fMem) : fOp :=
  fRd M (P0 + 3) 24 a1 (fun x1 => fEq x1 0 (fCl (dn_X2_nextOnTrunk P0 a1 M) (fun v3 M4 => some (v3, M4))) (fRd M (P0 + 5) 24 a1 (fun x2 => some (x2, M))))
set_option maxRecDepth 100000 in
set_option maxHeartbeats 4000000 in
theorem wk_X2_keptAgainst {l : Launch} {p : Program} {e : Env} {s : State} {m : MethodId} {args : Array Value} {below : List Frame} {meth : Method} {c : Code} {D : va_G} {aC : Nat → ClassId} {ad : Nat → Nat} (hC : fCx p s m args c vwCl D aC TB ad (fFr ad TB) goodTs cX2_keptAgainst RX2 2) (hr : meth.sig.returnType = some .int) (hk : meth.locks = false) (P0 : Nat) (hP0 : fIsH P0) (a1 : Int) (M : fMem) : GM l p e s m args below meth c D aC ad 2 1 22 0 0 [(0, .ref (ad P0)), (1, .int (fI a1))] [] M (dn_X2_keptAgainst P0 a1 M) := by
  unfold dn_X2_keptAgainst
  refine g_aload_n hC 0 1 rfl dX2_keptAgainst_0 rfl rfl ?_
  refine g_getA hC 4 inX2 rfl 2 (by decide) gw_90 rfl (tb_H hP0) rfl dX2_keptAgainst_1 rfl ?_
  refine g_iload_n hC 1 5 rfl dX2_keptAgainst_4 rfl rfl ?_
  refine g_iald hC 6 (tb_H_3 hP0) (by decide) dX2_keptAgainst_5 rfl (fun x1 => ?_)
  refine g_if_ne hC 17 9 dX2_keptAgainst_6 rfl rfl ?_ ?_
  · refine g_aload_n hC 0 18 rfl dX2_keptAgainst_17 rfl rfl ?_
    refine g_getA hC 21 inX2 rfl 4 (by decide) gw_92 rfl (tb_H hP0) rfl dX2_keptAgainst_18 rfl ?_
    refine g_iload_n hC 1 22 rfl dX2_keptAgainst_21 rfl rfl ?_
    refine g_iald hC 23 (tb_H_5 hP0) (by decide) dX2_keptAgainst_22 rfl (fun x2 => ?_)
    exact g_ireturn hC hr hk dX2_keptAgainst_23
  · refine g_aload_n hC 0 10 rfl dX2_keptAgainst_9 rfl rfl ?_
    refine g_iload_n hC 1 11 rfl dX2_keptAgainst_10 rfl rfl ?_
    refine g_cV hC 14 1 [.int (fI a1)] [] (cn_X2_nextOnTrunk l P0 hP0 a1 _) rfl rfl (tb_H hP0) rfl gw_503 gw_506 gw_60 gw_505 gw_34 (by decide +kernel) rfl ⟨Nat.le_of_ble_eq_true rfl, Nat.le_of_ble_eq_true rfl⟩ (Nat.le_of_ble_eq_true rfl) ⟨Nat.zero_le _, Nat.zero_le _⟩ dX2_keptAgainst_11 rfl (fun v3 => .int (fI v3) :: []) (fun _ => rfl) (fun v3 M4 => ?_)
    refine g_goto hC 23 dX2_keptAgainst_14 rfl ?_
    exact g_ireturn hC hr hk dX2_keptAgainst_23
theorem cn_X2_keptAgainst (l : Launch) (P0 : Nat) (hP0 : fIsH P0) (a1 : Int) (M : fMem) : fMt l vwCl TB yX2_keptAgainst cX2_keptAgainst 2 (some .int) 1 22 0 (fun ad => [.ref (ad P0), .int (fI a1)]) M (dn_X2_keptAgainst P0 a1 M) :=
  fMt.of (by decide +kernel) (fun _ => Nat.le_of_ble_eq_true rfl) (fun p e s m args below meth c D aC ad hC hr hk => wk_X2_keptAgainst hC hr hk P0 hP0 a1 M)
