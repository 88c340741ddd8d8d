def dn_X1_measureRests_J117 (P0 : Nat) (r : Int → fMem → fOp) (x123 : Int → fMem → fOp) (a1 a2 : Int) (M : fMem) : fOp :=
  r (a2 + (-1)) M
set_option maxRecDepth 100000 in
set_option maxHeartbeats 4000000 in
theorem wk_X1_measureRests_J117 {l : Launch} {p : Program} {e : Env} {s : State} {m : MethodId} {args : Array Value} {below : List Frame} {meth : Method} {c : Code} {D : va_G} {aC : Nat → ClassId} {ad : Nat → Nat} (hC : fCx p s m args c vwCl D aC TB ad (fFr ad TB) goodTs cX1_measureRests RX1 3) (hr : meth.sig.returnType = none) (hk : meth.locks = false) (P0 : Nat) (hP0 : fIsD P0) (a1 a2 : Int)  (r : Int → fMem → fOp) (hrc : ∀ (z2 : Int) (M : fMem), GM l p e s m args below meth c D aC ad 3 1 21 2 14 [(0, .ref (ad P0)), (1, .int (fI a1)), (2, .int (fI z2))] [] M (r z2 M)) (x123 : Int → fMem → fOp) (hx123 : ∀ (y2 : Int) (M : fMem), GM l p e s m args below meth c D aC ad 3 1 21 2 123 [(0, .ref (ad P0)), (1, .int (fI a1)), (2, .int (fI y2))] [] M (x123 y2 M)) (M : fMem) : GM l p e s m args below meth c D aC ad 3 1 21 2 117 [(0, .ref (ad P0)), (1, .int (fI a1)), (2, .int (fI a2))] [] M (dn_X1_measureRests_J117 P0 r x123 a1 a2 M) := by
  unfold dn_X1_measureRests_J117
  refine g_iinc hC 2 120 [(2, .int (fI (a2 + (-1)))), (0, .ref (ad P0)), (1, .int (fI a1))] rfl dX1_measureRests_117 (by decide) rfl rfl ?_
  refine g_goto hC 14 dX1_measureRests_120 rfl ?_
  refine g_lv [1, 2, 0] rfl ?_
  exact hrc _ _
def dn_X1_measureRests_J34 (P0 : Nat) (r : Int → fMem → fOp) (x123 : Int → fMem → fOp) (a1 a2 : Int) (M : fMem) : fOp :=
  fIx 13 (P0 + 4) 1 a1 (fun P4 => fWr M P4 13 a2 0 (fun M5 => dn_X1_measureRests_J117 P0 r x123 a1 a2 M5))
set_option maxRecDepth 100000 in
set_option maxHeartbeats 4000000 in
theorem wk_X1_measureRests_J34 {l : Launch} {p : Program} {e : Env} {s : State} {m : MethodId} {args : Array Value} {below : List Frame} {meth : Method} {c : Code} {D : va_G} {aC : Nat → ClassId} {ad : Nat → Nat} (hC : fCx p s m args c vwCl D aC TB ad (fFr ad TB) goodTs cX1_measureRests RX1 3) (hr : meth.sig.returnType = none) (hk : meth.locks = false) (P0 : Nat) (hP0 : fIsD P0) (a1 a2 : Int)  (r : Int → fMem → fOp) (hrc : ∀ (z2 : Int) (M : fMem), GM l p e s m args below meth c D aC ad 3 1 21 2 14 [(0, .ref (ad P0)), (1, .int (fI a1)), (2, .int (fI z2))] [] M (r z2 M)) (x123 : Int → fMem → fOp) (hx123 : ∀ (y2 : Int) (M : fMem), GM l p e s m args below meth c D aC ad 3 1 21 2 123 [(0, .ref (ad P0)), (1, .int (fI a1)), (2, .int (fI y2))] [] M (x123 y2 M)) (M : fMem) : GM l p e s m args below meth c D aC ad 3 1 21 2 34 [(0, .ref (ad P0)), (1, .int (fI a1)), (2, .int (fI a2))] [] M (dn_X1_measureRests_J34 P0 r x123 a1 a2 M) := by
  unfold dn_X1_measureRests_J34
  refine g_aload_n hC 0 35 rfl dX1_measureRests_34 rfl rfl ?_
  refine g_getA hC 38 inX1 rfl 4 (by decide) gw_178 rfl (tb_D hP0) rfl dX1_measureRests_35 rfl ?_
  refine g_iload_n hC 1 39 rfl dX1_measureRests_38 rfl rfl ?_
  refine g_rald hC 13 (P0 + 4) 1 40 (tb_Dc hP0) rfl (tb_Dc_q P0) rfl (by decide) dX1_measureRests_39 rfl (fun P4 hP4 => ?_)
  replace hP4 := tb_Dr hP0 hP4
  refine g_iload_n hC 2 41 rfl dX1_measureRests_40 rfl rfl ?_
  refine g_iconst hC 42 dX1_measureRests_41 rfl ?_
  refine g_iast hC 43 hP4 (by decide) dX1_measureRests_42 rfl (fun M5 => ?_)
  refine g_goto hC 117 dX1_measureRests_43 rfl ?_
  exact wk_X1_measureRests_J117 hC hr hk _ hP0 _ _ _ hrc _ hx123 _
def dn_X1_measureRests_L14B (P0 : Nat) (a1 : Int) (r : Int → fMem → fOp) (x123 : Int → fMem → fOp) (a2 : Int) (M : fMem) : fOp :=
  fLt a2 0 (x123 a2 M) (fGt M P0 2 (fun x3 => fEq a1 x3 (dn_X1_measureRests_J34 P0 r x123 a1 a2 M) (fGt M P0 3 (fun x6 => fEq a2 x6 (dn_X1_measureRests_J34 P0 r x123 a1 a2 M) (fRd M (P0 + 1) 12 a1 (fun x7 => fRd M (P0 + 2) 12 a2 (fun x8 => fEq x7 x8 (fIx 13 (P0 + 4) 1 a1 (fun P16 => fIx 13 (P0 + 4) 1 (a1 + 1) (fun P17 => fRd M P17 13 (a2 + 1) (fun x18 => fWr M P16 13 a2 (1 + x18) (fun M19 => dn_X1_measureRests_J117 P0 r x123 a1 a2 M19))))) (fIx 13 (P0 + 4) 1 a1 (fun P9 => fIx 13 (P0 + 4) 1 (a1 + 1) (fun P10 => fRd M P10 13 a2 (fun x11 => fIx 13 (P0 + 4) 1 a1 (fun P12 => fRd M P12 13 (a2 + 1) (fun x13 => fMx x11 x13 (fun x14 => fWr M P9 13 a2 x14 (fun M15 => dn_X1_measureRests_J117 P0 r x123 a1 a2 M15)))))))))))))))
def dn_X1_measureRests_L14 (P0 : Nat) (a1 : Int) (x123 : Int → fMem → fOp) : Nat → Int → fMem → fOp
  | 0, _, _ => none
  | n + 1, a2, M => dn_X1_measureRests_L14B P0 a1 (fun a2 M => dn_X1_measureRests_L14 P0 a1 x123 n a2 M) x123 a2 M
set_option maxRecDepth 100000 in
set_option maxHeartbeats 4000000 in
theorem wk_X1_measureRests_L14B {l : Launch} {p : Program} {e : Env} {s : State} {m : MethodId} {args : Array Value} {below : List Frame} {meth : Method} {c : Code} {D : va_G} {aC : Nat → ClassId} {ad : Nat → Nat} (hC : fCx p s m args c vwCl D aC TB ad (fFr ad TB) goodTs cX1_measureRests RX1 3) (hr : meth.sig.returnType = none) (hk : meth.locks = false) (P0 : Nat) (hP0 : fIsD P0) (a1 : Int) (r : Int → fMem → fOp) (hrc : ∀ (a2 : Int) (M : fMem), GM l p e s m args below meth c D aC ad 3 1 21 2 14 [(0, .ref (ad P0)), (1, .int (fI a1)), (2, .int (fI a2))] [] M (r a2 M)) (x123 : Int → fMem → fOp) (hx123 : ∀ (y2 : Int) (M : fMem), GM l p e s m args below meth c D aC ad 3 1 21 2 123 [(0, .ref (ad P0)), (1, .int (fI a1)), (2, .int (fI y2))] [] M (x123 y2 M)) (a2 : Int) (M : fMem) : GM l p e s m args below meth c D aC ad 3 1 21 2 14 [(0, .ref (ad P0)), (1, .int (fI a1)), (2, .int (fI a2))] [] M (dn_X1_measureRests_L14B P0 a1 r x123 a2 M) := by
  unfold dn_X1_measureRests_L14B
  refine g_iload_n hC 2 15 rfl dX1_measureRests_14 rfl rfl ?_
  refine g_if_lt hC 123 18 dX1_measureRests_15 rfl rfl ?_ ?_
  · exact hx123 _ _
  · refine g_iload_n hC 1 19 rfl dX1_measureRests_18 rfl rfl ?_
    refine g_aload_n hC 0 20 rfl dX1_measureRests_19 rfl rfl ?_
    refine g_getI hC 23 inX1 rfl 2 (by decide) gw_174 rfl (tb_D hP0) rfl dX1_measureRests_20 rfl (fun x3 => ?_)
    refine g_icmp_eq hC 34 26 dX1_measureRests_23 rfl rfl ?_ ?_
    · exact wk_X1_measureRests_J34 hC hr hk _ hP0 _ _ _ hrc _ hx123 _
    · refine g_iload_n hC 2 27 rfl dX1_measureRests_26 rfl rfl ?_
      refine g_aload_n hC 0 28 rfl dX1_measureRests_27 rfl rfl ?_
      refine g_getI hC 31 inX1 rfl 3 (by decide) gw_176 rfl (tb_D hP0) rfl dX1_measureRests_28 rfl (fun x6 => ?_)
      refine g_icmp_ne hC 46 34 dX1_measureRests_31 rfl rfl ?_ ?_
      · refine g_aload_n hC 0 47 rfl dX1_measureRests_46 rfl rfl ?_
        refine g_getA hC 50 inX1 rfl 0 (by decide) gw_170 rfl (tb_D hP0) rfl dX1_measureRests_47 rfl ?_
        refine g_iload_n hC 1 51 rfl dX1_measureRests_50 rfl rfl ?_
        refine g_iald hC 52 (tb_D_1 hP0) (by decide) dX1_measureRests_51 rfl (fun x7 => ?_)
        refine g_aload_n hC 0 53 rfl dX1_measureRests_52 rfl rfl ?_
        refine g_getA hC 56 inX1 rfl 1 (by decide) gw_172 rfl (tb_D hP0) rfl dX1_measureRests_53 rfl ?_
        refine g_iload_n hC 2 57 rfl dX1_measureRests_56 rfl rfl ?_
        refine g_iald hC 58 (tb_D_2 hP0) (by decide) dX1_measureRests_57 rfl (fun x8 => ?_)
        refine g_icmp_ne hC 86 61 dX1_measureRests_58 rfl rfl ?_ ?_
        · refine g_aload_n hC 0 87 rfl dX1_measureRests_86 rfl rfl ?_
          refine g_getA hC 90 inX1 rfl 4 (by decide) gw_178 rfl (tb_D hP0) rfl dX1_measureRests_87 rfl ?_
          refine g_iload_n hC 1 91 rfl dX1_measureRests_90 rfl rfl ?_
          refine g_rald hC 13 (P0 + 4) 1 92 (tb_Dc hP0) rfl (tb_Dc_q P0) rfl (by decide) dX1_measureRests_91 rfl (fun P9 hP9 => ?_)
          replace hP9 := tb_Dr hP0 hP9
          refine g_iload_n hC 2 93 rfl dX1_measureRests_92 rfl rfl ?_
          refine g_aload_n hC 0 94 rfl dX1_measureRests_93 rfl rfl ?_
          refine g_getA hC 97 inX1 rfl 4 (by decide) gw_178 rfl (tb_D hP0) rfl dX1_measureRests_94 rfl ?_
          refine g_iload_n hC 1 98 rfl dX1_measureRests_97 rfl rfl ?_
          refine g_iconst hC 99 dX1_measureRests_98 rfl ?_
          refine g_iadd hC 100 dX1_measureRests_99 rfl ?_
          refine g_rald hC 13 (P0 + 4) 1 101 (tb_Dc hP0) rfl (tb_Dc_q P0) rfl (by decide) dX1_measureRests_100 rfl (fun P10 hP10 => ?_)
          replace hP10 := tb_Dr hP0 hP10
          refine g_iload_n hC 2 102 rfl dX1_measureRests_101 rfl rfl ?_
          refine g_iald hC 103 hP10 (by decide) dX1_measureRests_102 rfl (fun x11 => ?_)
          refine g_aload_n hC 0 104 rfl dX1_measureRests_103 rfl rfl ?_
          refine g_getA hC 107 inX1 rfl 4 (by decide) gw_178 rfl (tb_D hP0) rfl dX1_measureRests_104 rfl ?_
          refine g_iload_n hC 1 108 rfl dX1_measureRests_107 rfl rfl ?_
          refine g_rald hC 13 (P0 + 4) 1 109 (tb_Dc hP0) rfl (tb_Dc_q P0) rfl (by decide) dX1_measureRests_108 rfl (fun P12 hP12 => ?_)
          replace hP12 := tb_Dr hP0 hP12
          refine g_iload_n hC 2 110 rfl dX1_measureRests_109 rfl rfl ?_
          refine g_iconst hC 111 dX1_measureRests_110 rfl ?_
          refine g_iadd hC 112 dX1_measureRests_111 rfl ?_
          refine g_iald hC 113 hP12 (by decide) dX1_measureRests_112 rfl (fun x13 => ?_)
          refine g_max hC 116 ⟨gw_406, gw_407, gw_67, gw_408⟩ ⟨Nat.le_of_ble_eq_true rfl, Nat.le_of_ble_eq_true rfl⟩ ⟨Nat.zero_le _, Nat.zero_le _⟩ dX1_measureRests_113 rfl (fun x14 => ?_)
          refine g_iast hC 117 hP9 (by decide) dX1_measureRests_116 rfl (fun M15 => ?_)
          exact wk_X1_measureRests_J117 hC hr hk _ hP0 _ _ _ hrc _ hx123 _
        · refine g_aload_n hC 0 62 rfl dX1_measureRests_61 rfl rfl ?_
          refine g_getA hC 65 inX1 rfl 4 (by decide) gw_178 rfl (tb_D hP0) rfl dX1_measureRests_62 rfl ?_
          refine g_iload_n hC 1 66 rfl dX1_measureRests_65 rfl rfl ?_
          refine g_rald hC 13 (P0 + 4) 1 67 (tb_Dc hP0) rfl (tb_Dc_q P0) rfl (by decide) dX1_measureRests_66 rfl (fun P16 hP16 => ?_)
          replace hP16 := tb_Dr hP0 hP16
          refine g_iload_n hC 2 68 rfl dX1_measureRests_67 rfl rfl ?_
          refine g_iconst hC 69 dX1_measureRests_68 rfl ?_
          refine g_aload_n hC 0 70 rfl dX1_measureRests_69 rfl rfl ?_
          refine g_getA hC 73 inX1 rfl 4 (by decide) gw_178 rfl (tb_D hP0) rfl dX1_measureRests_70 rfl ?_
          refine g_iload_n hC 1 74 rfl dX1_measureRests_73 rfl rfl ?_
          refine g_iconst hC 75 dX1_measureRests_74 rfl ?_
          refine g_iadd hC 76 dX1_measureRests_75 rfl ?_
          refine g_rald hC 13 (P0 + 4) 1 77 (tb_Dc hP0) rfl (tb_Dc_q P0) rfl (by decide) dX1_measureRests_76 rfl (fun P17 hP17 => ?_)
          replace hP17 := tb_Dr hP0 hP17
          refine g_iload_n hC 2 78 rfl dX1_measureRests_77 rfl rfl ?_
          refine g_iconst hC 79 dX1_measureRests_78 rfl ?_
          refine g_iadd hC 80 dX1_measureRests_79 rfl ?_
          refine g_iald hC 81 hP17 (by decide) dX1_measureRests_80 rfl (fun x18 => ?_)
          refine g_iadd hC 82 dX1_measureRests_81 rfl ?_
          refine g_iast hC 83 hP16 (by decide) dX1_measureRests_82 rfl (fun M19 => ?_)
          refine g_goto hC 117 dX1_measureRests_83 rfl ?_
          exact wk_X1_measureRests_J117 hC hr hk _ hP0 _ _ _ hrc _ hx123 _
      · exact wk_X1_measureRests_J34 hC hr hk _ hP0 _ _ _ hrc _ hx123 _
set_option maxRecDepth 100000 in
set_option maxHeartbeats 4000000 in
theorem wk_X1_measureRests_L14 {l : Launch} {p : Program} {e : Env} {s : State} {m : MethodId} {args : Array Value} {below : List Frame} {meth : Method} {c : Code} {D : va_G} {aC : Nat → ClassId} {ad : Nat → Nat} (hC : fCx p s m args c vwCl D aC TB ad (fFr ad TB) goodTs cX1_measureRests RX1 3) (hr : meth.sig.returnType = none) (hk : meth.locks = false) (P0 : Nat) (hP0 : fIsD P0) (a1 : Int) (x123 : Int → fMem → fOp) (hx123 : ∀ (y2 : Int) (M : fMem), GM l p e s m args below meth c D aC ad 3 1 21 2 123 [(0, .ref (ad P0)), (1, .int (fI a1)), (2, .int (fI y2))] [] M (x123 y2 M)) (n : Nat) : ∀ (a2 : Int) (M : fMem), GM l p e s m args below meth c D aC ad 3 1 21 2 14 [(0, .ref (ad P0)), (1, .int (fI a1)), (2, .int (fI a2))] [] M (dn_X1_measureRests_L14 P0 a1 x123 n a2 M) := by
  induction n with
  | zero => intro a2 M; exact g_none
  | succ n ih => intro a2 M; exact wk_X1_measureRests_L14B hC hr hk P0 hP0 a1 (fun a2 M => dn_X1_measureRests_L14 P0 a1 x123 n a2 M) ih x123 hx123 a2 M
def dn_X1_measureRests_L5B (P0 : Nat) (r : Int → fMem → fOp) (a1 : Int) (M : fMem) : fOp :=
  fLt a1 0 (some (0, M)) (fGt M P0 3 (fun x2 => dn_X1_measureRests_L14 P0 a1 (fun y20 M21 => r (a1 + (-1)) M21) 600 x2 M))
def dn_X1_measureRests_L5 (P0 : Nat) : Nat → Int → fMem → fOp
  | 0, _, _ => none
  | n + 1, a1, M => dn_X1_measureRests_L5B P0 (fun a1 M => dn_X1_measureRests_L5 P0 n a1 M) a1 M
set_option maxRecDepth 100000 in
set_option maxHeartbeats 4000000 in
theorem wk_X1_measureRests_L5B {l : Launch} {p : Program} {e : Env} {s : State} {m : MethodId} {args : Array Value} {below : List Frame} {meth : Method} {c : Code} {D : va_G} {aC : Nat → ClassId} {ad : Nat → Nat} (hC : fCx p s m args c vwCl D aC TB ad (fFr ad TB) goodTs cX1_measureRests RX1 3) (hr : meth.sig.returnType = none) (hk : meth.locks = false) (P0 : Nat) (hP0 : fIsD P0) (r : Int → fMem → fOp) (hrc : ∀ (a1 : Int) (M : fMem), GM l p e s m args below meth c D aC ad 3 1 21 2 5 [(0, .ref (ad P0)), (1, .int (fI a1))] [] M (r a1 M)) (a1 : Int) (M : fMem) : GM l p e s m args below meth c D aC ad 3 1 21 2 5 [(0, .ref (ad P0)), (1, .int (fI a1))] [] M (dn_X1_measureRests_L5B P0 r a1 M) := by
  unfold dn_X1_measureRests_L5B
  refine g_iload_n hC 1 6 rfl dX1_measureRests_5 rfl rfl ?_
  refine g_if_lt hC 129 9 dX1_measureRests_6 rfl rfl ?_ ?_
  · exact g_return hC hr hk dX1_measureRests_129
  · refine g_aload_n hC 0 10 rfl dX1_measureRests_9 rfl rfl ?_
    refine g_getI hC 13 inX1 rfl 3 (by decide) gw_176 rfl (tb_D hP0) rfl dX1_measureRests_10 rfl (fun x2 => ?_)
    refine g_istore_n hC 14 [(2, .int (fI x2)), (0, .ref (ad P0)), (1, .int (fI a1))] dX1_measureRests_13 rfl (by decide) rfl rfl ?_
    refine g_lv [1, 2, 0] rfl ?_
    refine wk_X1_measureRests_L14 hC hr hk _ hP0 _ _ (fun y20 M21 => ?_) 600 _ _
    · refine g_iinc hC 1 126 [(1, .int (fI (a1 + (-1)))), (0, .ref (ad P0)), (2, .int (fI y20))] rfl dX1_measureRests_123 (by decide) rfl rfl ?_
      refine g_goto hC 5 dX1_measureRests_126 rfl ?_
      refine g_lv [1, 0] rfl ?_
      exact hrc _ _
set_option maxRecDepth 100000 in
set_option maxHeartbeats 4000000 in
theorem wk_X1_measureRests_L5 {l : Launch} {p : Program} {e : Env} {s : State} {m : MethodId} {args : Array Value} {below : List Frame} {meth : Method} {c : Code} {D : va_G} {aC : Nat → ClassId} {ad : Nat → Nat} (hC : fCx p s m args c vwCl D aC TB ad (fFr ad TB) goodTs cX1_measureRests RX1 3) (hr : meth.sig.returnType = none) (hk : meth.locks = false) (P0 : Nat) (hP0 : fIsD P0) (n : Nat) : ∀ (a1 : Int) (M : fMem), GM l p e s m args below meth c D aC ad 3 1 21 2 5 [(0, .ref (ad P0)), (1, .int (fI a1))] [] M (dn_X1_measureRests_L5 P0 n a1 M) := by
  induction n with
  | zero => intro a1 M; exact g_none
  | succ n ih => intro a1 M; exact wk_X1_measureRests_L5B hC hr hk P0 hP0 (fun a1 M => dn_X1_measureRests_L5 P0 n a1 M) ih a1 M
def dn_X1_measureRests (P0 : Nat) (M : fMem) : fOp :=
  fGt M P0 2 (fun x1 => dn_X1_measureRests_L5 P0 600 x1 M)
set_option maxRecDepth 100000 in
set_option maxHeartbeats 4000000 in
theorem wk_X1_measureRests {l : Launch} {p : Program} {e : Env} {s : State} {m : MethodId} {args : Array Value} {below : List Frame} {meth : Method} {c : Code} {D : va_G} {aC : Nat → ClassId} {ad : Nat → Nat} (hC : fCx p s m args c vwCl D aC TB ad (fFr ad TB) goodTs cX1_measureRests RX1 3) (hr : meth.sig.returnType = none) (hk : meth.locks = false) (P0 : Nat) (hP0 : fIsD P0) (M : fMem) : GM l p e s m args below meth c D aC ad 3 1 21 2 0 [(0, .ref (ad P0))] [] M (dn_X1_measureRests P0 M) := by
  unfold dn_X1_measureRests
  refine g_aload_n hC 0 1 rfl dX1_measureRests_0 rfl rfl ?_
  refine g_getI hC 4 inX1 rfl 2 (by decide) gw_174 rfl (tb_D hP0) rfl dX1_measureRests_1 rfl (fun x1 => ?_)
  refine g_istore_n hC 5 [(1, .int (fI x1)), (0, .ref (ad P0))] dX1_measureRests_4 rfl (by decide) rfl rfl ?_
  refine g_lv [1, 0] rfl ?_
  refine wk_X1_measureRests_L5 hC hr hk _ hP0 600 _ _
theorem cn_X1_measureRests (l : Launch) (P0 : Nat) (hP0 : fIsD P0) (M : fMem) : fMt l vwCl TB yX1_measureRests cX1_measureRests 3 (none) 1 21 2 (fun ad => [.ref (ad P0)]) M (dn_X1_measureRests P0 M) :=
  fMt.of (by decide +kernel) (fun _ => Nat.le_of_ble_eq_true rfl) (fun p e s m args below meth c D aC ad hC hr hk => wk_X1_measureRests hC hr hk P0 hP0 M)
def dn_X1_pairLines_L17B (P0 : Nat) (r : Int → Int → fMem → fOp) (a1 a2 : Int) (M : fMem) : fOp :=
  fGt M P0 2 (fun x3 => fLe x3 a1 (some (0, M)) (fGt M P0 3 (fun x4 => fLe x4 a2 (some (0, M)) (fRd M (P0 + 1) 12 a1 (fun x5 => fRd M (P0 + 2) 12 a2 (fun x6 => fEq x5 x6 (fWr M (P0 + 17) 12 a1 a2 (fun M11 => fGt M11 P0 6 (fun x12 => fPt M11 P0 6 (x12 + 1) (fun M13 => r (a1 + 1) (a2 + 1) M13)))) (fIx 13 (P0 + 4) 1 (a1 + 1) (fun P7 => fRd M P7 13 a2 (fun x8 => fIx 13 (P0 + 4) 1 a1 (fun P9 => fRd M P9 13 (a2 + 1) (fun x10 => fLt x8 x10 (r a1 (a2 + 1) M) (r (a1 + 1) a2 M))))))))))))
def dn_X1_pairLines_L17 (P0 : Nat) : Nat → Int → Int → fMem → fOp
  | 0, _, _, _ => none
  | n + 1, a1, a2, M => dn_X1_pairLines_L17B P0 (fun a1 a2 M => dn_X1_pairLines_L17 P0 n a1 a2 M) a1 a2 M
set_option maxRecDepth 100000 in
set_option maxHeartbeats 4000000 in
theorem wk_X1_pairLines_L17B {l : Launch} {p : Program} {e : Env} {s : State} {m : MethodId} {args : Array Value} {below : List Frame} {meth : Method} {c : Code} {D : va_G} {aC : Nat → ClassId} {ad : Nat → Nat} (hC : fCx p s m args c vwCl D aC TB ad (fFr ad TB) goodTs cX1_pairLines RX1 3) (hr : meth.sig.returnType = none) (hk : meth.locks = false) (P0 : Nat) (hP0 : fIsD P0) (r : Int → Int → fMem → fOp) (hrc : ∀ (a1 a2 : Int) (M : fMem), GM l p e s m args below meth c D aC ad 3 1 23 2 17 [(0, .ref (ad P0)), (1, .int (fI a1)), (2, .int (fI a2))] [] M (r a1 a2 M)) (a1 a2 : Int) (M : fMem) : GM l p e s m args below meth c D aC ad 3 1 23 2 17 [(0, .ref (ad P0)), (1, .int (fI a1)), (2, .int (fI a2))] [] M (dn_X1_pairLines_L17B P0 r a1 a2 M) := by
  unfold dn_X1_pairLines_L17B
  refine g_iload_n hC 1 18 rfl dX1_pairLines_17 rfl rfl ?_
  refine g_aload_n hC 0 19 rfl dX1_pairLines_18 rfl rfl ?_
  refine g_getI hC 22 inX1 rfl 2 (by decide) gw_174 rfl (tb_D hP0) rfl dX1_pairLines_19 rfl (fun x3 => ?_)
  refine g_icmp_ge hC 109 25 dX1_pairLines_22 rfl rfl ?_ ?_
  · exact g_return hC hr hk dX1_pairLines_109
  · refine g_iload_n hC 2 26 rfl dX1_pairLines_25 rfl rfl ?_
    refine g_aload_n hC 0 27 rfl dX1_pairLines_26 rfl rfl ?_
    refine g_getI hC 30 inX1 rfl 3 (by decide) gw_176 rfl (tb_D hP0) rfl dX1_pairLines_27 rfl (fun x4 => ?_)
    refine g_icmp_ge hC 109 33 dX1_pairLines_30 rfl rfl ?_ ?_
    · exact g_return hC hr hk dX1_pairLines_109
    · refine g_aload_n hC 0 34 rfl dX1_pairLines_33 rfl rfl ?_
      refine g_getA hC 37 inX1 rfl 0 (by decide) gw_170 rfl (tb_D hP0) rfl dX1_pairLines_34 rfl ?_
      refine g_iload_n hC 1 38 rfl dX1_pairLines_37 rfl rfl ?_
      refine g_iald hC 39 (tb_D_1 hP0) (by decide) dX1_pairLines_38 rfl (fun x5 => ?_)
      refine g_aload_n hC 0 40 rfl dX1_pairLines_39 rfl rfl ?_
      refine g_getA hC 43 inX1 rfl 1 (by decide) gw_172 rfl (tb_D hP0) rfl dX1_pairLines_40 rfl ?_
      refine g_iload_n hC 2 44 rfl dX1_pairLines_43 rfl rfl ?_
      refine g_iald hC 45 (tb_D_2 hP0) (by decide) dX1_pairLines_44 rfl (fun x6 => ?_)
      refine g_icmp_ne hC 74 48 dX1_pairLines_45 rfl rfl ?_ ?_
      · refine g_aload_n hC 0 75 rfl dX1_pairLines_74 rfl rfl ?_
        refine g_getA hC 78 inX1 rfl 4 (by decide) gw_178 rfl (tb_D hP0) rfl dX1_pairLines_75 rfl ?_
        refine g_iload_n hC 1 79 rfl dX1_pairLines_78 rfl rfl ?_
        refine g_iconst hC 80 dX1_pairLines_79 rfl ?_
        refine g_iadd hC 81 dX1_pairLines_80 rfl ?_
        refine g_rald hC 13 (P0 + 4) 1 82 (tb_Dc hP0) rfl (tb_Dc_q P0) rfl (by decide) dX1_pairLines_81 rfl (fun P7 hP7 => ?_)
        replace hP7 := tb_Dr hP0 hP7
        refine g_iload_n hC 2 83 rfl dX1_pairLines_82 rfl rfl ?_
        refine g_iald hC 84 hP7 (by decide) dX1_pairLines_83 rfl (fun x8 => ?_)
        refine g_aload_n hC 0 85 rfl dX1_pairLines_84 rfl rfl ?_
        refine g_getA hC 88 inX1 rfl 4 (by decide) gw_178 rfl (tb_D hP0) rfl dX1_pairLines_85 rfl ?_
        refine g_iload_n hC 1 89 rfl dX1_pairLines_88 rfl rfl ?_
        refine g_rald hC 13 (P0 + 4) 1 90 (tb_Dc hP0) rfl (tb_Dc_q P0) rfl (by decide) dX1_pairLines_89 rfl (fun P9 hP9 => ?_)
        replace hP9 := tb_Dr hP0 hP9
        refine g_iload_n hC 2 91 rfl dX1_pairLines_90 rfl rfl ?_
        refine g_iconst hC 92 dX1_pairLines_91 rfl ?_
        refine g_iadd hC 93 dX1_pairLines_92 rfl ?_
        refine g_iald hC 94 hP9 (by decide) dX1_pairLines_93 rfl (fun x10 => ?_)
        refine g_icmp_lt hC 103 97 dX1_pairLines_94 rfl rfl ?_ ?_
        · refine g_iinc hC 2 106 [(2, .int (fI (a2 + 1))), (0, .ref (ad P0)), (1, .int (fI a1))] rfl dX1_pairLines_103 (by decide) rfl rfl ?_
          refine g_goto hC 17 dX1_pairLines_106 rfl ?_
          refine g_lv [1, 2, 0] rfl ?_
          exact hrc _ _ _
        · refine g_iinc hC 1 100 [(1, .int (fI (a1 + 1))), (0, .ref (ad P0)), (2, .int (fI a2))] rfl dX1_pairLines_97 (by decide) rfl rfl ?_
          refine g_goto hC 17 dX1_pairLines_100 rfl ?_
          refine g_lv [1, 0, 2] rfl ?_
          exact hrc _ _ _
      · refine g_aload_n hC 0 49 rfl dX1_pairLines_48 rfl rfl ?_
        refine g_getA hC 52 inX1 rfl 5 (by decide) gw_179 rfl (tb_D hP0) rfl dX1_pairLines_49 rfl ?_
        refine g_iload_n hC 1 53 rfl dX1_pairLines_52 rfl rfl ?_
        refine g_iload_n hC 2 54 rfl dX1_pairLines_53 rfl rfl ?_
        refine g_iast hC 55 (tb_D_17 hP0) (by decide) dX1_pairLines_54 rfl (fun M11 => ?_)
        refine g_aload_n hC 0 56 rfl dX1_pairLines_55 rfl rfl ?_
        refine g_dup hC 57 dX1_pairLines_56 rfl rfl ?_
        refine g_getI hC 60 inX1 rfl 6 (by decide) gw_181 rfl (tb_D hP0) rfl dX1_pairLines_57 rfl (fun x12 => ?_)
        refine g_iconst hC 61 dX1_pairLines_60 rfl ?_
        refine g_iadd hC 62 dX1_pairLines_61 rfl ?_
        refine g_putI hC 65 tyX1 tyX1_ok nmX1 inX1 rfl 6 (by decide) gw_181 rfl rfl (by decide +kernel) (tb_D hP0) rfl dX1_pairLines_62 rfl (fun M13 => ?_)
        refine g_iinc hC 1 68 [(1, .int (fI (a1 + 1))), (0, .ref (ad P0)), (2, .int (fI a2))] rfl dX1_pairLines_65 (by decide) rfl rfl ?_
        refine g_iinc hC 2 71 [(2, .int (fI (a2 + 1))), (1, .int (fI (a1 + 1))), (0, .ref (ad P0))] rfl dX1_pairLines_68 (by decide) rfl rfl ?_
        refine g_goto hC 17 dX1_pairLines_71 rfl ?_
        refine g_lv [2, 1, 0] rfl ?_
        exact hrc _ _ _
set_option maxRecDepth 100000 in
set_option maxHeartbeats 4000000 in
theorem wk_X1_pairLines_L17 {l : Launch} {p : Program} {e : Env} {s : State} {m : MethodId} {args : Array Value} {below : List Frame} {meth : Method} {c : Code} {D : va_G} {aC : Nat → ClassId} {ad : Nat → Nat} (hC : fCx p s m args c vwCl D aC TB ad (fFr ad TB) goodTs cX1_pairLines RX1 3) (hr : meth.sig.returnType = none) (hk : meth.locks = false) (P0 : Nat) (hP0 : fIsD P0) (n : Nat) : ∀ (a1 a2 : Int) (M : fMem), GM l p e s m args below meth c D aC ad 3 1 23 2 17 [(0, .ref (ad P0)), (1, .int (fI a1)), (2, .int (fI a2))] [] M (dn_X1_pairLines_L17 P0 n a1 a2 M) := by
  induction n with
  | zero => intro a1 a2 M; exact g_none
  | succ n ih => intro a1 a2 M; exact wk_X1_pairLines_L17B hC hr hk P0 hP0 (fun a1 a2 M => dn_X1_pairLines_L17 P0 n a1 a2 M) ih a1 a2 M
def dn_X1_pairLines (P0 : Nat) (M : fMem) : fOp :=
  fCl (fFil M (P0 + 17) 12 (-1)) (fun _ M1 => fPt M1 P0 6 0 (fun M2 => dn_X1_pairLines_L17 P0 600 0 0 M2))
set_option maxRecDepth 100000 in
set_option maxHeartbeats 4000000 in
theorem wk_X1_pairLines {l : Launch} {p : Program} {e : Env} {s : State} {m : MethodId} {args : Array Value} {below : List Frame} {meth : Method} {c : Code} {D : va_G} {aC : Nat → ClassId} {ad : Nat → Nat} (hC : fCx p s m args c vwCl D aC TB ad (fFr ad TB) goodTs cX1_pairLines RX1 3) (hr : meth.sig.returnType = none) (hk : meth.locks = false) (P0 : Nat) (hP0 : fIsD P0) (M : fMem) : GM l p e s m args below meth c D aC ad 3 1 23 2 0 [(0, .ref (ad P0))] [] M (dn_X1_pairLines P0 M) := by
  unfold dn_X1_pairLines
  refine g_aload_n hC 0 1 rfl dX1_pairLines_0 rfl rfl ?_
  refine g_getA hC 4 inX1 rfl 5 (by decide) gw_179 rfl (tb_D hP0) rfl dX1_pairLines_1 rfl ?_
  refine g_iconst hC 5 dX1_pairLines_4 rfl ?_
  refine g_cS hC 8 2 [.ref (ad (P0 + 17)), .int (fI (-1))] [] (cn_fill l _ _ (tb_D_17 hP0) (by decide) _ _) rfl rfl gw_413 gw_85 gw_61 gw_84 (by decide +kernel) rfl ⟨Nat.le_of_ble_eq_true rfl, Nat.le_of_ble_eq_true rfl⟩ (Nat.le_of_ble_eq_true rfl) ⟨Nat.zero_le _, Nat.zero_le _⟩ dX1_pairLines_5 rfl (fun _ => []) (fun _ => rfl) (fun _ M1 => ?_)
  refine g_aload_n hC 0 9 rfl dX1_pairLines_8 rfl rfl ?_
  refine g_iconst hC 10 dX1_pairLines_9 rfl ?_
  refine g_putI hC 13 tyX1 tyX1_ok nmX1 inX1 rfl 6 (by decide) gw_181 rfl rfl (by decide +kernel) (tb_D hP0) rfl dX1_pairLines_10 rfl (fun M2 => ?_)
  refine g_iconst hC 14 dX1_pairLines_13 rfl ?_
  refine g_istore_n hC 15 [(1, .int (fI 0)), (0, .ref (ad P0))] dX1_pairLines_14 rfl (by decide) rfl rfl ?_
  refine g_iconst hC 16 dX1_pairLines_15 rfl ?_
  refine g_istore_n hC 17 [(2, .int (fI 0)), (1, .int (fI 0)), (0, .ref (ad P0))] dX1_pairLines_16 rfl (by decide) rfl rfl ?_
  refine g_lv [2, 1, 0] rfl ?_
  refine wk_X1_pairLines_L17 hC hr hk _ hP0 600 _ _ _
theorem cn_X1_pairLines (l : Launch) (P0 : Nat) (hP0 : fIsD P0) (M : fMem) : fMt l vwCl TB yX1_pairLines cX1_pairLines 3 (none) 1 23 2 (fun ad => [.ref (ad P0)]) M (dn_X1_pairLines P0 M) :=
  fMt.of (by decide +kernel) (fun _ => Nat.le_of_ble_eq_true rfl) (fun p e s m args below meth c D aC ad hC hr hk => wk_X1_pairLines hC hr hk P0 hP0 M)
def dn_X1_compare (P0 : Nat) (a1 : Int) (a3 : Int) (M : fMem) : fOp :=
  fCl (dn_X4_spread a1 (P0 + 1) M) (fun v1 M2 => fPt M2 P0 2 v1 (fun M3 => fCl (dn_X4_spread a3 (P0 + 2) M3) (fun v4 M5 => fPt M5 P0 3 v4 (fun M6 => fCl (dn_X1_measureRests P0 M6) (fun _ M8 => fCl (dn_X1_pairLines P0 M8) (fun _ M10 => some (0, M10)))))))
set_option maxRecDepth 100000 in
set_option maxHeartbeats 4000000 in
theorem wk_X1_compare {l : Launch} {p : Program} {e : Env} {s : State} {m : MethodId} {args : Array Value} {below : List Frame} {meth : Method} {c : Code} {D : va_G} {aC : Nat → ClassId} {ad : Nat → Nat} (hC : fCx p s m args c vwCl D aC TB ad (fFr ad TB) goodTs cX1_compare RX1 5) (hr : meth.sig.returnType = none) (hk : meth.locks = false) (P0 : Nat) (hP0 : fIsD P0) (a1 : Int) (a3 : Int) (M : fMem) : GM l p e s m args below meth c D aC ad 5 2 50 2 0 [(0, .ref (ad P0)), (1, .long (fL a1)), (3, .long (fL a3))] [] M (dn_X1_compare P0 a1 a3 M) := by
  unfold dn_X1_compare
  refine g_aload_n hC 0 1 rfl dX1_compare_0 rfl rfl ?_
  refine g_lload_n hC 1 2 rfl dX1_compare_1 rfl rfl ?_
  refine g_aload_n hC 0 3 rfl dX1_compare_2 rfl rfl ?_
  refine g_getA hC 6 inX1 rfl 0 (by decide) gw_170 rfl (tb_D hP0) rfl dX1_compare_3 rfl ?_
  refine g_cSN hC 9 2 [.long (fL a1), .ref (ad (P0 + 1))] [.ref (ad P0)] (cn_X4_spread l a1 (P0 + 1) (tb_D_1 hP0) _) rfl rfl gw_396 gw_398 gw_66 gw_397 (by decide +kernel) rfl ⟨Nat.le_of_ble_eq_true rfl, Nat.le_of_ble_eq_true rfl⟩ (Nat.le_of_ble_eq_true rfl) ⟨Nat.zero_le _, Nat.zero_le _⟩ dX1_compare_6 rfl (fun v1 => .int (fI v1) :: [.ref (ad P0)]) (fun _ => rfl) (fun v1 M2 => ?_)
  refine g_putI hC 12 tyX1 tyX1_ok nmX1 inX1 rfl 2 (by decide) gw_174 rfl rfl (by decide +kernel) (tb_D hP0) rfl dX1_compare_9 rfl (fun M3 => ?_)
  refine g_aload_n hC 0 13 rfl dX1_compare_12 rfl rfl ?_
  refine g_lload_n hC 2 14 rfl dX1_compare_13 rfl rfl ?_
  refine g_aload_n hC 0 15 rfl dX1_compare_14 rfl rfl ?_
  refine g_getA hC 18 inX1 rfl 1 (by decide) gw_172 rfl (tb_D hP0) rfl dX1_compare_15 rfl ?_
  refine g_cSN hC 21 2 [.long (fL a3), .ref (ad (P0 + 2))] [.ref (ad P0)] (cn_X4_spread l a3 (P0 + 2) (tb_D_2 hP0) _) rfl rfl gw_396 gw_398 gw_66 gw_397 (by decide +kernel) rfl ⟨Nat.le_of_ble_eq_true rfl, Nat.le_of_ble_eq_true rfl⟩ (Nat.le_of_ble_eq_true rfl) ⟨Nat.zero_le _, Nat.zero_le _⟩ dX1_compare_18 rfl (fun v4 => .int (fI v4) :: [.ref (ad P0)]) (fun _ => rfl) (fun v4 M5 => ?_)
  refine g_putI hC 24 tyX1 tyX1_ok nmX1 inX1 rfl 3 (by decide) gw_176 rfl rfl (by decide +kernel) (tb_D hP0) rfl dX1_compare_21 rfl (fun M6 => ?_)
  refine g_aload_n hC 0 25 rfl dX1_compare_24 rfl rfl ?_
  refine g_cV hC 28 0 [] [] (cn_X1_measureRests l P0 hP0 _) rfl rfl (tb_D hP0) rfl gw_402 gw_405 gw_63 gw_404 gw_23 (by decide +kernel) rfl ⟨Nat.le_of_ble_eq_true rfl, Nat.le_of_ble_eq_true rfl⟩ (Nat.le_of_ble_eq_true rfl) ⟨Nat.zero_le _, Nat.zero_le _⟩ dX1_compare_25 rfl (fun _ => []) (fun _ => rfl) (fun _ M8 => ?_)
  refine g_aload_n hC 0 29 rfl dX1_compare_28 rfl rfl ?_
  refine g_cV hC 32 0 [] [] (cn_X1_pairLines l P0 hP0 _) rfl rfl (tb_D hP0) rfl gw_409 gw_412 gw_63 gw_411 gw_24 (by decide +kernel) rfl ⟨Nat.le_of_ble_eq_true rfl, Nat.le_of_ble_eq_true rfl⟩ (Nat.le_of_ble_eq_true rfl) ⟨Nat.zero_le _, Nat.zero_le _⟩ dX1_compare_29 rfl (fun _ => []) (fun _ => rfl) (fun _ M10 => ?_)
  exact g_return hC hr hk dX1_compare_32
theorem cn_X1_compare (l : Launch) (P0 : Nat) (hP0 : fIsD P0) (a1 : Int) (a3 : Int) (M : fMem) : fMt l vwCl TB yX1_compare cX1_compare 5 (none) 2 50 2 (fun ad => [.ref (ad P0), .long (fL a1), .long (fL a3)]) M (dn_X1_compare P0 a1 a3 M) :=
  fMt.of (by decide +kernel) (fun _ => Nat.le_of_ble_eq_true rfl) (fun p e s m args below meth c D aC ad hC hr hk => wk_X1_compare hC hr hk P0 hP0 a1 a3 M)
def dn_X1_size (P0 : Nat) (M : fMem) : fOp :=
  fGt M P0 2 (fun x1 => fGt M P0 3 (fun x2 => fGt M P0 6 (fun x3 => some ((x1 + x2) - (2 * x3), M))))
set_option maxRecDepth 100000 in
set_option maxHeartbeats 4000000 in
theorem wk_X1_size {l : Launch} {p : Program} {e : Env} {s : State} {m : MethodId} {args : Array Value} {below : List Frame} {meth : Method} {c : Code} {D : va_G} {aC : Nat → ClassId} {ad : Nat → Nat} (hC : fCx p s m args c vwCl D aC TB ad (fFr ad TB) goodTs cX1_size RX1 1) (hr : meth.sig.returnType = some .int) (hk : meth.locks = false) (P0 : Nat) (hP0 : fIsD P0) (M : fMem) : GM l p e s m args below meth c D aC ad 1 0 0 0 0 [(0, .ref (ad P0))] [] M (dn_X1_size P0 M) := by
  unfold dn_X1_size
  refine g_aload_n hC 0 1 rfl dX1_size_0 rfl rfl ?_
  refine g_getI hC 4 inX1 rfl 2 (by decide) gw_174 rfl (tb_D hP0) rfl dX1_size_1 rfl (fun x1 => ?_)
  refine g_aload_n hC 0 5 rfl dX1_size_4 rfl rfl ?_
  refine g_getI hC 8 inX1 rfl 3 (by decide) gw_176 rfl (tb_D hP0) rfl dX1_size_5 rfl (fun x2 => ?_)
  refine g_iadd hC 9 dX1_size_8 rfl ?_
  refine g_iconst hC 10 dX1_size_9 rfl ?_
  refine g_aload_n hC 0 11 rfl dX1_size_10 rfl rfl ?_
  refine g_getI hC 14 inX1 rfl 6 (by decide) gw_181 rfl (tb_D hP0) rfl dX1_size_11 rfl (fun x3 => ?_)
  refine g_imul hC 15 dX1_size_14 rfl ?_
  refine g_isub hC 16 dX1_size_15 rfl ?_
  exact g_ireturn hC hr hk dX1_size_16
theorem cn_X1_size (l : Launch) (P0 : Nat) (hP0 : fIsD P0) (M : fMem) : fMt l vwCl TB yX1_size cX1_size 1 (some .int) 0 0 0 (fun ad => [.ref (ad P0)]) M (dn_X1_size P0 M) :=
  fMt.of (by decide +kernel) (fun _ => Nat.le_of_ble_eq_true rfl) (fun p e s m args below meth c D aC ad hC hr hk => wk_X1_size hC hr hk P0 hP0 M)
