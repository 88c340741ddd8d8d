def dn_X0_hasEntry (P0 : Nat) (M : fMem) : fOp :=
  fGt M P0 0 (fun x1 => fEq x1 (-1) (fRz 0 M) (fRz 1 M))
set_option maxRecDepth 100000 in
set_option maxHeartbeats 4000000 in
theorem wk_X0_hasEntry {l : Launch} {p : Program} {e : Env} {s : State} {m : MethodId} {args : Array Value} {below : List Frame} {meth : Method} {c : Code} {D : va_G} {aC : Nat → ClassId} {ad : Nat → Nat} (hC : fCx p s m args c vwCl D aC TB ad (fFr ad TB) goodTs cX0_hasEntry RX0 1) (hr : meth.sig.returnType = some .boolean) (hk : meth.locks = false) (P0 : Nat) (hP0 : fIsC P0) (M : fMem) : GM l p e s m args below meth c D aC ad 1 0 0 0 0 [(0, .ref (ad P0))] [] M (dn_X0_hasEntry P0 M) := by
  unfold dn_X0_hasEntry
  refine g_aload_n hC 0 1 rfl dX0_hasEntry_0 rfl rfl ?_
  refine g_getI hC 4 inX0 rfl 0 (by decide) gw_145 rfl (tb_C hP0) rfl dX0_hasEntry_1 rfl (fun x1 => ?_)
  refine g_iconst hC 5 dX0_hasEntry_4 rfl ?_
  refine g_icmp_eq hC 12 8 dX0_hasEntry_5 rfl rfl ?_ ?_
  · refine g_iconst hC 13 dX0_hasEntry_12 rfl ?_
    exact g_zreturn hC hr hk dX0_hasEntry_13
  · refine g_iconst hC 9 dX0_hasEntry_8 rfl ?_
    refine g_goto hC 13 dX0_hasEntry_9 rfl ?_
    exact g_zreturn hC hr hk dX0_hasEntry_13
theorem cn_X0_hasEntry (l : Launch) (P0 : Nat) (hP0 : fIsC P0) (M : fMem) : fMt l vwCl TB yX0_hasEntry cX0_hasEntry 1 (some .boolean) 0 0 0 (fun ad => [.ref (ad P0)]) M (dn_X0_hasEntry P0 M) :=
  fMt.of (by decide +kernel) (fun _ => Nat.le_of_ble_eq_true rfl) (fun p e s m args below meth c D aC ad hC hr hk => wk_X0_hasEntry hC hr hk P0 hP0 M)
def dn_X4_isText_L13B  (a0 : Int) (r : Int → Int → fMem → fOp) (x63 : Int → Int → fMem → fOp) (a2 a4 : Int) (M : fMem) : fOp :=
  fLe 12 a4 (x63 a2 a4 M) (fLtL 0 a2 (fRmL a2 32 (fun x1 => fLtL x1 1 (fRz 0 M) (fLtL 19 x1 (fRz 0 M) (fDvL a2 32 (fun x2 => r x2 (a4 + 1) M))))) (x63 a2 a4 M))
def dn_X4_isText_L13  (a0 : Int) (x63 : Int → Int → fMem → fOp) : Nat → Int → Int → fMem → fOp
  | 0, _, _, _ => none
  | n + 1, a2, a4, M => dn_X4_isText_L13B a0 (fun a2 a4 M => dn_X4_isText_L13 a0 x63 n a2 a4 M) x63 a2 a4 M
set_option maxRecDepth 100000 in
set_option maxHeartbeats 4000000 in
theorem wk_X4_isText_L13B {l : Launch} {p : Program} {e : Env} {s : State} {m : MethodId} {args : Array Value} {below : List Frame} {meth : Method} {c : Code} {D : va_G} {aC : Nat → ClassId} {ad : Nat → Nat} (hC : fCx p s m args c vwCl D aC TB ad (fFr ad TB) goodTs cX4_isText RX4 7) (hr : meth.sig.returnType = some .boolean) (hk : meth.locks = false) (a0 : Int) (r : Int → Int → fMem → fOp) (hrc : ∀ (a2 a4 : Int) (M : fMem), GM l p e s m args below meth c D aC ad 7 0 0 0 13 [(0, .long (fL a0)), (2, .long (fL a2)), (4, .int (fI a4))] [] M (r a2 a4 M)) (x63 : Int → Int → fMem → fOp) (hx63 : ∀ (y2 y4 : Int) (M : fMem), GM l p e s m args below meth c D aC ad 7 0 0 0 63 [(0, .long (fL a0)), (2, .long (fL y2)), (4, .int (fI y4))] [] M (x63 y2 y4 M)) (a2 a4 : Int) (M : fMem) : GM l p e s m args below meth c D aC ad 7 0 0 0 13 [(0, .long (fL a0)), (2, .long (fL a2)), (4, .int (fI a4))] [] M (dn_X4_isText_L13B a0 r x63 a2 a4 M) := by
  unfold dn_X4_isText_L13B
  refine g_iload hC 2 15 rfl dX4_isText_13 rfl ?_
  refine g_bipush hC 17 dX4_isText_15 rfl (by decide +kernel) ?_
  refine g_icmp_ge hC 63 20 dX4_isText_17 rfl rfl ?_ ?_
  · exact hx63 _ _ _
  · refine g_lload_n hC 1 21 rfl dX4_isText_20 rfl rfl ?_
    refine g_lconst hC 0 22 dX4_isText_21 rfl (by decide +kernel) ?_
    refine g_lcmp_le hC 63 26 dX4_isText_22 dX4_isText_23 rfl rfl ?_ ?_
    · exact hx63 _ _ _
    · refine g_lload_n hC 1 27 rfl dX4_isText_26 rfl rfl ?_
      refine g_ldc2 hC 32 30 gw_263 dX4_isText_27 rfl ?_
      refine g_lrem hC 31 dX4_isText_30 rfl (fun x1 => ?_)
      refine g_lstore hC 33 [(5, .long (fL x1)), (0, .long (fL a0)), (2, .long (fL a2)), (4, .int (fI a4))] dX4_isText_31 (by decide) rfl rfl ?_
      refine g_lload hC 0 35 rfl dX4_isText_33 rfl ?_
      refine g_lconst hC 1 36 dX4_isText_35 rfl (by decide +kernel) ?_
      refine g_lcmp_lt hC 49 40 dX4_isText_36 dX4_isText_37 rfl rfl ?_ ?_
      · refine g_iconst hC 50 dX4_isText_49 rfl ?_
        exact g_zreturn hC hr hk dX4_isText_50
      · refine g_lload hC 0 42 rfl dX4_isText_40 rfl ?_
        refine g_ldc2 hC 19 45 gw_264 dX4_isText_42 rfl ?_
        refine g_lcmp_le hC 51 49 dX4_isText_45 dX4_isText_46 rfl rfl ?_ ?_
        · refine g_lload_n hC 2 52 rfl dX4_isText_51 rfl rfl ?_
          refine g_ldc2 hC 32 55 gw_263 dX4_isText_52 rfl ?_
          refine g_ldiv hC 56 dX4_isText_55 rfl (fun x2 => ?_)
          refine g_lstore_n hC 57 [(2, .long (fL x2)), (5, .long (fL x1)), (0, .long (fL a0)), (4, .int (fI a4))] dX4_isText_56 rfl (by decide) rfl rfl ?_
          refine g_iinc hC 3 60 [(4, .int (fI (a4 + 1))), (2, .long (fL x2)), (5, .long (fL x1)), (0, .long (fL a0))] rfl dX4_isText_57 (by decide) rfl rfl ?_
          refine g_goto hC 13 dX4_isText_60 rfl ?_
          refine g_lv [3, 1, 0] rfl ?_
          exact hrc _ _ _
        · refine g_iconst hC 50 dX4_isText_49 rfl ?_
          exact g_zreturn hC hr hk dX4_isText_50
set_option maxRecDepth 100000 in
set_option maxHeartbeats 4000000 in
theorem wk_X4_isText_L13 {l : Launch} {p : Program} {e : Env} {s : State} {m : MethodId} {args : Array Value} {below : List Frame} {meth : Method} {c : Code} {D : va_G} {aC : Nat → ClassId} {ad : Nat → Nat} (hC : fCx p s m args c vwCl D aC TB ad (fFr ad TB) goodTs cX4_isText RX4 7) (hr : meth.sig.returnType = some .boolean) (hk : meth.locks = false) (a0 : Int) (x63 : Int → Int → fMem → fOp) (hx63 : ∀ (y2 y4 : Int) (M : fMem), GM l p e s m args below meth c D aC ad 7 0 0 0 63 [(0, .long (fL a0)), (2, .long (fL y2)), (4, .int (fI y4))] [] M (x63 y2 y4 M)) (n : Nat) : ∀ (a2 a4 : Int) (M : fMem), GM l p e s m args below meth c D aC ad 7 0 0 0 13 [(0, .long (fL a0)), (2, .long (fL a2)), (4, .int (fI a4))] [] M (dn_X4_isText_L13 a0 x63 n a2 a4 M) := by
  induction n with
  | zero => intro a2 a4 M; exact g_none
  | succ n ih => intro a2 a4 M; exact wk_X4_isText_L13B hC hr hk a0 (fun a2 a4 M => dn_X4_isText_L13 a0 x63 n a2 a4 M) ih x63 hx63 a2 a4 M
def dn_X4_isText_J63  (a0 a2 a4 : Int) (M : fMem) : fOp :=
  fEqL a2 0 (fRz 1 M) (fRz 0 M)
set_option maxRecDepth 100000 in
set_option maxHeartbeats 4000000 in
theorem wk_X4_isText_J63 {l : Launch} {p : Program} {e : Env} {s : State} {m : MethodId} {args : Array Value} {below : List Frame} {meth : Method} {c : Code} {D : va_G} {aC : Nat → ClassId} {ad : Nat → Nat} (hC : fCx p s m args c vwCl D aC TB ad (fFr ad TB) goodTs cX4_isText RX4 7) (hr : meth.sig.returnType = some .boolean) (hk : meth.locks = false) (a0 a2 a4 : Int)  (M : fMem) : GM l p e s m args below meth c D aC ad 7 0 0 0 63 [(0, .long (fL a0)), (2, .long (fL a2)), (4, .int (fI a4))] [] M (dn_X4_isText_J63 a0 a2 a4 M) := by
  unfold dn_X4_isText_J63
  refine g_lload_n hC 1 64 rfl dX4_isText_63 rfl rfl ?_
  refine g_lconst hC 0 65 dX4_isText_64 rfl (by decide +kernel) ?_
  refine g_lcmp_ne hC 73 69 dX4_isText_65 dX4_isText_66 rfl rfl ?_ ?_
  · refine g_iconst hC 74 dX4_isText_73 rfl ?_
    exact g_zreturn hC hr hk dX4_isText_74
  · refine g_iconst hC 70 dX4_isText_69 rfl ?_
    refine g_goto hC 74 dX4_isText_70 rfl ?_
    exact g_zreturn hC hr hk dX4_isText_74
def dn_X4_isText (a0 : Int) (M : fMem) : fOp :=
  fLtL a0 0 (fRz 0 M) (dn_X4_isText_L13 a0 (fun y3 y4 M5 => dn_X4_isText_J63 a0 y3 y4 M5) 600 a0 0 M)
set_option maxRecDepth 100000 in
set_option maxHeartbeats 4000000 in
theorem wk_X4_isText {l : Launch} {p : Program} {e : Env} {s : State} {m : MethodId} {args : Array Value} {below : List Frame} {meth : Method} {c : Code} {D : va_G} {aC : Nat → ClassId} {ad : Nat → Nat} (hC : fCx p s m args c vwCl D aC TB ad (fFr ad TB) goodTs cX4_isText RX4 7) (hr : meth.sig.returnType = some .boolean) (hk : meth.locks = false) (a0 : Int) (M : fMem) : GM l p e s m args below meth c D aC ad 7 0 0 0 0 [(0, .long (fL a0))] [] M (dn_X4_isText a0 M) := by
  unfold dn_X4_isText
  refine g_lload_n hC 0 1 rfl dX4_isText_0 rfl rfl ?_
  refine g_lconst hC 0 2 dX4_isText_1 rfl (by decide +kernel) ?_
  refine g_lcmp_ge hC 8 6 dX4_isText_2 dX4_isText_3 rfl rfl ?_ ?_
  · refine g_lload_n hC 0 9 rfl dX4_isText_8 rfl rfl ?_
    refine g_lstore_n hC 10 [(2, .long (fL a0)), (0, .long (fL a0))] dX4_isText_9 rfl (by decide) rfl rfl ?_
    refine g_iconst hC 11 dX4_isText_10 rfl ?_
    refine g_istore hC 13 [(4, .int (fI 0)), (2, .long (fL a0)), (0, .long (fL a0))] dX4_isText_11 (by decide) rfl rfl ?_
    refine g_lv [2, 1, 0] rfl ?_
    refine wk_X4_isText_L13 hC hr hk _ _ (fun y3 y4 M5 => ?_) 600 _ _ _
    · exact wk_X4_isText_J63 hC hr hk _ _ _ _
  · refine g_iconst hC 7 dX4_isText_6 rfl ?_
    exact g_zreturn hC hr hk dX4_isText_7
theorem cn_X4_isText (l : Launch) (a0 : Int) (M : fMem) : fMt l vwCl TB yX4_isText cX4_isText 7 (some .boolean) 0 0 0 (fun ad => [.long (fL a0)]) M (dn_X4_isText a0 M) :=
  fMt.of (by decide +kernel) (fun _ => Nat.le_of_ble_eq_true rfl) (fun p e s m args below meth c D aC ad hC hr hk => wk_X4_isText hC hr hk a0 M)
def dn_X4_hasMarks_L5B  (a0 : Int) (r : Int → Int → fMem → fOp) (a2 a4 : Int) (M : fMem) : fOp :=
  fLe 12 a4 (fRz 0 M) (fRmL a2 32 (fun x1 => fLtL x1 17 (fDvL a2 32 (fun x2 => r x2 (a4 + 1) M)) (fRz 1 M)))
def dn_X4_hasMarks_L5  (a0 : Int) : Nat → Int → Int → fMem → fOp
  | 0, _, _, _ => none
  | n + 1, a2, a4, M => dn_X4_hasMarks_L5B a0 (fun a2 a4 M => dn_X4_hasMarks_L5 a0 n a2 a4 M) a2 a4 M
set_option maxRecDepth 100000 in
set_option maxHeartbeats 4000000 in
theorem wk_X4_hasMarks_L5B {l : Launch} {p : Program} {e : Env} {s : State} {m : MethodId} {args : Array Value} {below : List Frame} {meth : Method} {c : Code} {D : va_G} {aC : Nat → ClassId} {ad : Nat → Nat} (hC : fCx p s m args c vwCl D aC TB ad (fFr ad TB) goodTs cX4_hasMarks RX4 5) (hr : meth.sig.returnType = some .boolean) (hk : meth.locks = false) (a0 : Int) (r : Int → Int → fMem → fOp) (hrc : ∀ (a2 a4 : Int) (M : fMem), GM l p e s m args below meth c D aC ad 5 0 0 0 5 [(0, .long (fL a0)), (2, .long (fL a2)), (4, .int (fI a4))] [] M (r a2 a4 M)) (a2 a4 : Int) (M : fMem) : GM l p e s m args below meth c D aC ad 5 0 0 0 5 [(0, .long (fL a0)), (2, .long (fL a2)), (4, .int (fI a4))] [] M (dn_X4_hasMarks_L5B a0 r a2 a4 M) := by
  unfold dn_X4_hasMarks_L5B
  refine g_iload hC 2 7 rfl dX4_hasMarks_5 rfl ?_
  refine g_bipush hC 9 dX4_hasMarks_7 rfl (by decide +kernel) ?_
  refine g_icmp_ge hC 38 12 dX4_hasMarks_9 rfl rfl ?_ ?_
  · refine g_iconst hC 39 dX4_hasMarks_38 rfl ?_
    exact g_zreturn hC hr hk dX4_hasMarks_39
  · refine g_lload_n hC 1 13 rfl dX4_hasMarks_12 rfl rfl ?_
    refine g_ldc2 hC 32 16 gw_263 dX4_hasMarks_13 rfl ?_
    refine g_lrem hC 17 dX4_hasMarks_16 rfl (fun x1 => ?_)
    refine g_ldc2 hC 17 20 gw_268 dX4_hasMarks_17 rfl ?_
    refine g_lcmp_lt hC 26 24 dX4_hasMarks_20 dX4_hasMarks_21 rfl rfl ?_ ?_
    · refine g_lload_n hC 1 27 rfl dX4_hasMarks_26 rfl rfl ?_
      refine g_ldc2 hC 32 30 gw_263 dX4_hasMarks_27 rfl ?_
      refine g_ldiv hC 31 dX4_hasMarks_30 rfl (fun x2 => ?_)
      refine g_lstore_n hC 32 [(2, .long (fL x2)), (0, .long (fL a0)), (4, .int (fI a4))] dX4_hasMarks_31 rfl (by decide) rfl rfl ?_
      refine g_iinc hC 2 35 [(4, .int (fI (a4 + 1))), (2, .long (fL x2)), (0, .long (fL a0))] rfl dX4_hasMarks_32 (by decide) rfl rfl ?_
      refine g_goto hC 5 dX4_hasMarks_35 rfl ?_
      refine g_lv [2, 1, 0] rfl ?_
      exact hrc _ _ _
    · refine g_iconst hC 25 dX4_hasMarks_24 rfl ?_
      exact g_zreturn hC hr hk dX4_hasMarks_25
set_option maxRecDepth 100000 in
set_option maxHeartbeats 4000000 in
theorem wk_X4_hasMarks_L5 {l : Launch} {p : Program} {e : Env} {s : State} {m : MethodId} {args : Array Value} {below : List Frame} {meth : Method} {c : Code} {D : va_G} {aC : Nat → ClassId} {ad : Nat → Nat} (hC : fCx p s m args c vwCl D aC TB ad (fFr ad TB) goodTs cX4_hasMarks RX4 5) (hr : meth.sig.returnType = some .boolean) (hk : meth.locks = false) (a0 : Int) (n : Nat) : ∀ (a2 a4 : Int) (M : fMem), GM l p e s m args below meth c D aC ad 5 0 0 0 5 [(0, .long (fL a0)), (2, .long (fL a2)), (4, .int (fI a4))] [] M (dn_X4_hasMarks_L5 a0 n a2 a4 M) := by
  induction n with
  | zero => intro a2 a4 M; exact g_none
  | succ n ih => intro a2 a4 M; exact wk_X4_hasMarks_L5B hC hr hk a0 (fun a2 a4 M => dn_X4_hasMarks_L5 a0 n a2 a4 M) ih a2 a4 M
def dn_X4_hasMarks (a0 : Int) (M : fMem) : fOp :=
  dn_X4_hasMarks_L5 a0 600 a0 0 M
set_option maxRecDepth 100000 in
set_option maxHeartbeats 4000000 in
theorem wk_X4_hasMarks {l : Launch} {p : Program} {e : Env} {s : State} {m : MethodId} {args : Array Value} {below : List Frame} {meth : Method} {c : Code} {D : va_G} {aC : Nat → ClassId} {ad : Nat → Nat} (hC : fCx p s m args c vwCl D aC TB ad (fFr ad TB) goodTs cX4_hasMarks RX4 5) (hr : meth.sig.returnType = some .boolean) (hk : meth.locks = false) (a0 : Int) (M : fMem) : GM l p e s m args below meth c D aC ad 5 0 0 0 0 [(0, .long (fL a0))] [] M (dn_X4_hasMarks a0 M) := by
  unfold dn_X4_hasMarks
  refine g_lload_n hC 0 1 rfl dX4_hasMarks_0 rfl rfl ?_
  refine g_lstore_n hC 2 [(2, .long (fL a0)), (0, .long (fL a0))] dX4_hasMarks_1 rfl (by decide) rfl rfl ?_
  refine g_iconst hC 3 dX4_hasMarks_2 rfl ?_
  refine g_istore hC 5 [(4, .int (fI 0)), (2, .long (fL a0)), (0, .long (fL a0))] dX4_hasMarks_3 (by decide) rfl rfl ?_
  refine g_lv [2, 1, 0] rfl ?_
  refine wk_X4_hasMarks_L5 hC hr hk _ 600 _ _ _
theorem cn_X4_hasMarks (l : Launch) (a0 : Int) (M : fMem) : fMt l vwCl TB yX4_hasMarks cX4_hasMarks 5 (some .boolean) 0 0 0 (fun ad => [.long (fL a0)]) M (dn_X4_hasMarks a0 M) :=
  fMt.of (by decide +kernel) (fun _ => Nat.le_of_ble_eq_true rfl) (fun p e s m args below meth c D aC ad hC hr hk => wk_X4_hasMarks hC hr hk a0 M)
def dn_X4_isClean (a0 : Int) (M : fMem) : fOp :=
  fCl (dn_X4_isText a0 M) (fun v1 M2 => fEq v1 0 (fRz 0 M2) (fCl (dn_X4_hasMarks a0 M2) (fun v3 M4 => fEq v3 0 (fRz 1 M4) (fRz 0 M4))))
set_option maxRecDepth 100000 in
set_option maxHeartbeats 4000000 in
theorem wk_X4_isClean {l : Launch} {p : Program} {e : Env} {s : State} {m : MethodId} {args : Array Value} {below : List Frame} {meth : Method} {c : Code} {D : va_G} {aC : Nat → ClassId} {ad : Nat → Nat} (hC : fCx p s m args c vwCl D aC TB ad (fFr ad TB) goodTs cX4_isClean RX4 2) (hr : meth.sig.returnType = some .boolean) (hk : meth.locks = false) (a0 : Int) (M : fMem) : GM l p e s m args below meth c D aC ad 2 1 26 0 0 [(0, .long (fL a0))] [] M (dn_X4_isClean a0 M) := by
  unfold dn_X4_isClean
  refine g_lload_n hC 0 1 rfl dX4_isClean_0 rfl rfl ?_
  refine g_cS hC 4 1 [.long (fL a0)] [] (cn_X4_isText l a0 _) rfl rfl gw_260 gw_262 gw_66 gw_261 (by decide +kernel) rfl ⟨Nat.le_of_ble_eq_true rfl, Nat.le_of_ble_eq_true rfl⟩ (Nat.le_of_ble_eq_true rfl) ⟨Nat.zero_le _, Nat.zero_le _⟩ dX4_isClean_1 rfl (fun v1 => .int (fI v1) :: []) (fun _ => rfl) (fun v1 M2 => ?_)
  refine g_if_eq hC 18 7 dX4_isClean_4 rfl rfl ?_ ?_
  · refine g_iconst hC 19 dX4_isClean_18 rfl ?_
    exact g_zreturn hC hr hk dX4_isClean_19
  · refine g_lload_n hC 0 8 rfl dX4_isClean_7 rfl rfl ?_
    refine g_cS hC 11 1 [.long (fL a0)] [] (cn_X4_hasMarks l a0 _) rfl rfl gw_265 gw_267 gw_66 gw_266 (by decide +kernel) rfl ⟨Nat.le_of_ble_eq_true rfl, Nat.le_of_ble_eq_true rfl⟩ (Nat.le_of_ble_eq_true rfl) ⟨Nat.zero_le _, Nat.zero_le _⟩ dX4_isClean_8 rfl (fun v3 => .int (fI v3) :: []) (fun _ => rfl) (fun v3 M4 => ?_)
    refine g_if_ne hC 18 14 dX4_isClean_11 rfl rfl ?_ ?_
    · refine g_iconst hC 19 dX4_isClean_18 rfl ?_
      exact g_zreturn hC hr hk dX4_isClean_19
    · refine g_iconst hC 15 dX4_isClean_14 rfl ?_
      refine g_goto hC 19 dX4_isClean_15 rfl ?_
      exact g_zreturn hC hr hk dX4_isClean_19
theorem cn_X4_isClean (l : Launch) (a0 : Int) (M : fMem) : fMt l vwCl TB yX4_isClean cX4_isClean 2 (some .boolean) 1 26 0 (fun ad => [.long (fL a0)]) M (dn_X4_isClean a0 M) :=
  fMt.of (by decide +kernel) (fun _ => Nat.le_of_ble_eq_true rfl) (fun p e s m args below meth c D aC ad hC hr hk => wk_X4_isClean hC hr hk a0 M)
def dn_X0_hold (P0 : Nat) (a1 : Int) (a2 : Int) (M : fMem) : fOp :=
  fPt M P0 0 a1 (fun M1 => fPz M1 P0 1 0 (fun M2 => fPt M2 P0 2 a2 (fun M3 => some (0, M3))))
set_option maxRecDepth 100000 in
set_option maxHeartbeats 4000000 in
theorem wk_X0_hold {l : Launch} {p : Program} {e : Env} {s : State} {m : MethodId} {args : Array Value} {below : List Frame} {meth : Method} {c : Code} {D : va_G} {aC : Nat → ClassId} {ad : Nat → Nat} (hC : fCx p s m args c vwCl D aC TB ad (fFr ad TB) goodTs cX0_hold RX0 4) (hr : meth.sig.returnType = none) (hk : meth.locks = false) (P0 : Nat) (hP0 : fIsC P0) (a1 : Int) (a2 : Int) (M : fMem) : GM l p e s m args below meth c D aC ad 4 0 0 2 0 [(0, .ref (ad P0)), (1, .int (fI a1)), (2, .long (fL a2))] [] M (dn_X0_hold P0 a1 a2 M) := by
  unfold dn_X0_hold
  refine g_aload_n hC 0 1 rfl dX0_hold_0 rfl rfl ?_
  refine g_iload_n hC 1 2 rfl dX0_hold_1 rfl rfl ?_
  refine g_putI hC 5 tyX0 tyX0_ok nmX0 inX0 rfl 0 (by decide) gw_145 rfl rfl (by decide +kernel) (tb_C hP0) rfl dX0_hold_2 rfl (fun M1 => ?_)
  refine g_aload_n hC 0 6 rfl dX0_hold_5 rfl rfl ?_
  refine g_iconst hC 7 dX0_hold_6 rfl ?_
  refine g_putZ hC 10 tyX0 tyX0_ok nmX0 inX0 rfl 1 (by decide) gw_147 rfl rfl (by decide +kernel) (tb_C hP0) rfl dX0_hold_7 rfl (fun M2 => ?_)
  refine g_aload_n hC 0 11 rfl dX0_hold_10 rfl rfl ?_
  refine g_lload_n hC 2 12 rfl dX0_hold_11 rfl rfl ?_
  refine g_putJ hC 15 tyX0 tyX0_ok nmX0 inX0 rfl 2 (by decide) gw_149 rfl rfl (by decide +kernel) (tb_C hP0) rfl dX0_hold_12 rfl (fun M3 => ?_)
  exact g_return hC hr hk dX0_hold_15
theorem cn_X0_hold (l : Launch) (P0 : Nat) (hP0 : fIsC P0) (a1 : Int) (a2 : Int) (M : fMem) : fMt l vwCl TB yX0_hold cX0_hold 4 (none) 0 0 2 (fun ad => [.ref (ad P0), .int (fI a1), .long (fL a2)]) M (dn_X0_hold P0 a1 a2 M) :=
  fMt.of (by decide +kernel) (fun _ => Nat.le_of_ble_eq_true rfl) (fun p e s m args below meth c D aC ad hC hr hk => wk_X0_hold hC hr hk P0 hP0 a1 a2 M)
def dn_X0_hasText (P0 : Nat) (M : fMem) : fOp :=
  fCl (dn_X0_hasEntry P0 M) (fun v1 M2 => fEq v1 0 (fRz 0 M2) (fGt M2 P0 1 (fun x3 => fEq x3 0 (fRz 1 M2) (fRz 0 M2))))
set_option maxRecDepth 100000 in
set_option maxHeartbeats 4000000 in
theorem wk_X0_hasText {l : Launch} {p : Program} {e : Env} {s : State} {m : MethodId} {args : Array Value} {below : List Frame} {meth : Method} {c : Code} {D : va_G} {aC : Nat → ClassId} {ad : Nat → Nat} (hC : fCx p s m args c vwCl D aC TB ad (fFr ad TB) goodTs cX0_hasText RX0 1) (hr : meth.sig.returnType = some .boolean) (hk : meth.locks = false) (P0 : Nat) (hP0 : fIsC P0) (M : fMem) : GM l p e s m args below meth c D aC ad 1 1 20 0 0 [(0, .ref (ad P0))] [] M (dn_X0_hasText P0 M) := by
  unfold dn_X0_hasText
  refine g_aload_n hC 0 1 rfl dX0_hasText_0 rfl rfl ?_
  refine g_cV hC 4 0 [] [] (cn_X0_hasEntry l P0 hP0 _) rfl rfl (tb_C hP0) rfl gw_281 gw_256 gw_62 gw_255 gw_1 (by decide +kernel) rfl ⟨Nat.le_of_ble_eq_true rfl, Nat.le_of_ble_eq_true rfl⟩ (Nat.le_of_ble_eq_true rfl) ⟨Nat.zero_le _, Nat.zero_le _⟩ dX0_hasText_1 rfl (fun v1 => .int (fI v1) :: []) (fun _ => rfl) (fun v1 M2 => ?_)
  refine g_if_eq hC 18 7 dX0_hasText_4 rfl rfl ?_ ?_
  · refine g_iconst hC 19 dX0_hasText_18 rfl ?_
    exact g_zreturn hC hr hk dX0_hasText_19
  · refine g_aload_n hC 0 8 rfl dX0_hasText_7 rfl rfl ?_
    refine g_getI hC 11 inX0 rfl 1 (by decide) gw_147 rfl (tb_C hP0) rfl dX0_hasText_8 rfl (fun x3 => ?_)
    refine g_if_ne hC 18 14 dX0_hasText_11 rfl rfl ?_ ?_
    · refine g_iconst hC 19 dX0_hasText_18 rfl ?_
      exact g_zreturn hC hr hk dX0_hasText_19
    · refine g_iconst hC 15 dX0_hasText_14 rfl ?_
      refine g_goto hC 19 dX0_hasText_15 rfl ?_
      exact g_zreturn hC hr hk dX0_hasText_19
theorem cn_X0_hasText (l : Launch) (P0 : Nat) (hP0 : fIsC P0) (M : fMem) : fMt l vwCl TB yX0_hasText cX0_hasText 1 (some .boolean) 1 20 0 (fun ad => [.ref (ad P0)]) M (dn_X0_hasText P0 M) :=
  fMt.of (by decide +kernel) (fun _ => Nat.le_of_ble_eq_true rfl) (fun p e s m args below meth c D aC ad hC hr hk => wk_X0_hasText hC hr hk P0 hP0 M)
def dn_X0_hasRevision (P0 : Nat) (M : fMem) : fOp :=
  fGt M P0 0 (fun x1 => fLt x1 0 (fRz 0 M) (fRz 1 M))
set_option maxRecDepth 100000 in
set_option maxHeartbeats 4000000 in
theorem wk_X0_hasRevision {l : Launch} {p : Program} {e : Env} {s : State} {m : MethodId} {args : Array Value} {below : List Frame} {meth : Method} {c : Code} {D : va_G} {aC : Nat → ClassId} {ad : Nat → Nat} (hC : fCx p s m args c vwCl D aC TB ad (fFr ad TB) goodTs cX0_hasRevision RX0 1) (hr : meth.sig.returnType = some .boolean) (hk : meth.locks = false) (P0 : Nat) (hP0 : fIsC P0) (M : fMem) : GM l p e s m args below meth c D aC ad 1 0 0 0 0 [(0, .ref (ad P0))] [] M (dn_X0_hasRevision P0 M) := by
  unfold dn_X0_hasRevision
  refine g_aload_n hC 0 1 rfl dX0_hasRevision_0 rfl rfl ?_
  refine g_getI hC 4 inX0 rfl 0 (by decide) gw_145 rfl (tb_C hP0) rfl dX0_hasRevision_1 rfl (fun x1 => ?_)
  refine g_if_lt hC 11 7 dX0_hasRevision_4 rfl rfl ?_ ?_
  · refine g_iconst hC 12 dX0_hasRevision_11 rfl ?_
    exact g_zreturn hC hr hk dX0_hasRevision_12
  · refine g_iconst hC 8 dX0_hasRevision_7 rfl ?_
    refine g_goto hC 12 dX0_hasRevision_8 rfl ?_
    exact g_zreturn hC hr hk dX0_hasRevision_12
theorem cn_X0_hasRevision (l : Launch) (P0 : Nat) (hP0 : fIsC P0) (M : fMem) : fMt l vwCl TB yX0_hasRevision cX0_hasRevision 1 (some .boolean) 0 0 0 (fun ad => [.ref (ad P0)]) M (dn_X0_hasRevision P0 M) :=
  fMt.of (by decide +kernel) (fun _ => Nat.le_of_ble_eq_true rfl) (fun p e s m args below meth c D aC ad hC hr hk => wk_X0_hasRevision hC hr hk P0 hP0 M)
def dn_X0_markGone (P0 : Nat) (M : fMem) : fOp :=
  fPz M P0 1 1 (fun M1 => some (0, M1))
set_option maxRecDepth 100000 in
set_option maxHeartbeats 4000000 in
theorem wk_X0_markGone {l : Launch} {p : Program} {e : Env} {s : State} {m : MethodId} {args : Array Value} {below : List Frame} {meth : Method} {c : Code} {D : va_G} {aC : Nat → ClassId} {ad : Nat → Nat} (hC : fCx p s m args c vwCl D aC TB ad (fFr ad TB) goodTs cX0_markGone RX0 1) (hr : meth.sig.returnType = none) (hk : meth.locks = false) (P0 : Nat) (hP0 : fIsC P0) (M : fMem) : GM l p e s m args below meth c D aC ad 1 0 0 2 0 [(0, .ref (ad P0))] [] M (dn_X0_markGone P0 M) := by
  unfold dn_X0_markGone
  refine g_aload_n hC 0 1 rfl dX0_markGone_0 rfl rfl ?_
  refine g_iconst hC 2 dX0_markGone_1 rfl ?_
  refine g_putZ hC 5 tyX0 tyX0_ok nmX0 inX0 rfl 1 (by decide) gw_147 rfl rfl (by decide +kernel) (tb_C hP0) rfl dX0_markGone_2 rfl (fun M1 => ?_)
  exact g_return hC hr hk dX0_markGone_5
theorem cn_X0_markGone (l : Launch) (P0 : Nat) (hP0 : fIsC P0) (M : fMem) : fMt l vwCl TB yX0_markGone cX0_markGone 1 (none) 0 0 2 (fun ad => [.ref (ad P0)]) M (dn_X0_markGone P0 M) :=
  fMt.of (by decide +kernel) (fun _ => Nat.le_of_ble_eq_true rfl) (fun p e s m args below meth c D aC ad hC hr hk => wk_X0_markGone hC hr hk P0 hP0 M)
def dn_X0_drop (P0 : Nat) (M : fMem) : fOp :=
  fPt M P0 0 (-1) (fun M1 => fPz M1 P0 1 0 (fun M2 => some (0, M2)))
set_option maxRecDepth 100000 in
set_option maxHeartbeats 4000000 in
theorem wk_X0_drop {l : Launch} {p : Program} {e : Env} {s : State} {m : MethodId} {args : Array Value} {below : List Frame} {meth : Method} {c : Code} {D : va_G} {aC : Nat → ClassId} {ad : Nat → Nat} (hC : fCx p s m args c vwCl D aC TB ad (fFr ad TB) goodTs cX0_drop RX0 1) (hr : meth.sig.returnType = none) (hk : meth.locks = false) (P0 : Nat) (hP0 : fIsC P0) (M : fMem) : GM l p e s m args below meth c D aC ad 1 0 0 2 0 [(0, .ref (ad P0))] [] M (dn_X0_drop P0 M) := by
  unfold dn_X0_drop
  refine g_aload_n hC 0 1 rfl dX0_drop_0 rfl rfl ?_
  refine g_iconst hC 2 dX0_drop_1 rfl ?_
  refine g_putI hC 5 tyX0 tyX0_ok nmX0 inX0 rfl 0 (by decide) gw_145 rfl rfl (by decide +kernel) (tb_C hP0) rfl dX0_drop_2 rfl (fun M1 => ?_)
  refine g_aload_n hC 0 6 rfl dX0_drop_5 rfl rfl ?_
  refine g_iconst hC 7 dX0_drop_6 rfl ?_
  refine g_putZ hC 10 tyX0 tyX0_ok nmX0 inX0 rfl 1 (by decide) gw_147 rfl rfl (by decide +kernel) (tb_C hP0) rfl dX0_drop_7 rfl (fun M2 => ?_)
  exact g_return hC hr hk dX0_drop_10
theorem cn_X0_drop (l : Launch) (P0 : Nat) (hP0 : fIsC P0) (M : fMem) : fMt l vwCl TB yX0_drop cX0_drop 1 (none) 0 0 2 (fun ad => [.ref (ad P0)]) M (dn_X0_drop P0 M) :=
  fMt.of (by decide +kernel) (fun _ => Nat.le_of_ble_eq_true rfl) (fun p e s m args below meth c D aC ad hC hr hk => wk_X0_drop hC hr hk P0 hP0 M)
def dn_X4_lineCount_L4B  (a0 : Int) (r : Int → Int → fMem → fOp) (a2 a3 : Int) (M : fMem) : fOp :=
  fLe 12 a2 (some (a2, M)) (fLtL 0 a3 (fDvL a3 32 (fun x1 => r (a2 + 1) x1 M)) (some (a2, M)))
def dn_X4_lineCount_L4  (a0 : Int) : Nat → Int → Int → fMem → fOp
  | 0, _, _, _ => none
  | n + 1, a2, a3, M => dn_X4_lineCount_L4B a0 (fun a2 a3 M => dn_X4_lineCount_L4 a0 n a2 a3 M) a2 a3 M
set_option maxRecDepth 100000 in
set_option maxHeartbeats 4000000 in
theorem wk_X4_lineCount_L4B {l : Launch} {p : Program} {e : Env} {s : State} {m : MethodId} {args : Array Value} {below : List Frame} {meth : Method} {c : Code} {D : va_G} {aC : Nat → ClassId} {ad : Nat → Nat} (hC : fCx p s m args c vwCl D aC TB ad (fFr ad TB) goodTs cX4_lineCount RX4 5) (hr : meth.sig.returnType = some .int) (hk : meth.locks = false) (a0 : Int) (r : Int → Int → fMem → fOp) (hrc : ∀ (a2 a3 : Int) (M : fMem), GM l p e s m args below meth c D aC ad 5 0 0 0 4 [(0, .long (fL a0)), (2, .int (fI a2)), (3, .long (fL a3))] [] M (r a2 a3 M)) (a2 a3 : Int) (M : fMem) : GM l p e s m args below meth c D aC ad 5 0 0 0 4 [(0, .long (fL a0)), (2, .int (fI a2)), (3, .long (fL a3))] [] M (dn_X4_lineCount_L4B a0 r a2 a3 M) := by
  unfold dn_X4_lineCount_L4B
  refine g_iload_n hC 1 5 rfl dX4_lineCount_4 rfl rfl ?_
  refine g_bipush hC 7 dX4_lineCount_5 rfl (by decide +kernel) ?_
  refine g_icmp_ge hC 28 10 dX4_lineCount_7 rfl rfl ?_ ?_
  · refine g_iload_n hC 1 29 rfl dX4_lineCount_28 rfl rfl ?_
    exact g_ireturn hC hr hk dX4_lineCount_29
  · refine g_lload_n hC 2 11 rfl dX4_lineCount_10 rfl rfl ?_
    refine g_lconst hC 0 12 dX4_lineCount_11 rfl (by decide +kernel) ?_
    refine g_lcmp_le hC 28 16 dX4_lineCount_12 dX4_lineCount_13 rfl rfl ?_ ?_
    · refine g_iload_n hC 1 29 rfl dX4_lineCount_28 rfl rfl ?_
      exact g_ireturn hC hr hk dX4_lineCount_29
    · refine g_lload_n hC 2 17 rfl dX4_lineCount_16 rfl rfl ?_
      refine g_ldc2 hC 32 20 gw_263 dX4_lineCount_17 rfl ?_
      refine g_ldiv hC 21 dX4_lineCount_20 rfl (fun x1 => ?_)
      refine g_lstore_n hC 22 [(3, .long (fL x1)), (0, .long (fL a0)), (2, .int (fI a2))] dX4_lineCount_21 rfl (by decide) rfl rfl ?_
      refine g_iinc hC 2 25 [(2, .int (fI (a2 + 1))), (3, .long (fL x1)), (0, .long (fL a0))] rfl dX4_lineCount_22 (by decide) rfl rfl ?_
      refine g_goto hC 4 dX4_lineCount_25 rfl ?_
      refine g_lv [2, 0, 1] rfl ?_
      exact hrc _ _ _
set_option maxRecDepth 100000 in
set_option maxHeartbeats 4000000 in
theorem wk_X4_lineCount_L4 {l : Launch} {p : Program} {e : Env} {s : State} {m : MethodId} {args : Array Value} {below : List Frame} {meth : Method} {c : Code} {D : va_G} {aC : Nat → ClassId} {ad : Nat → Nat} (hC : fCx p s m args c vwCl D aC TB ad (fFr ad TB) goodTs cX4_lineCount RX4 5) (hr : meth.sig.returnType = some .int) (hk : meth.locks = false) (a0 : Int) (n : Nat) : ∀ (a2 a3 : Int) (M : fMem), GM l p e s m args below meth c D aC ad 5 0 0 0 4 [(0, .long (fL a0)), (2, .int (fI a2)), (3, .long (fL a3))] [] M (dn_X4_lineCount_L4 a0 n a2 a3 M) := by
  induction n with
  | zero => intro a2 a3 M; exact g_none
  | succ n ih => intro a2 a3 M; exact wk_X4_lineCount_L4B hC hr hk a0 (fun a2 a3 M => dn_X4_lineCount_L4 a0 n a2 a3 M) ih a2 a3 M
def dn_X4_lineCount (a0 : Int) (M : fMem) : fOp :=
  dn_X4_lineCount_L4 a0 600 0 a0 M
set_option maxRecDepth 100000 in
set_option maxHeartbeats 4000000 in
theorem wk_X4_lineCount {l : Launch} {p : Program} {e : Env} {s : State} {m : MethodId} {args : Array Value} {below : List Frame} {meth : Method} {c : Code} {D : va_G} {aC : Nat → ClassId} {ad : Nat → Nat} (hC : fCx p s m args c vwCl D aC TB ad (fFr ad TB) goodTs cX4_lineCount RX4 5) (hr : meth.sig.returnType = some .int) (hk : meth.locks = false) (a0 : Int) (M : fMem) : GM l p e s m args below meth c D aC ad 5 0 0 0 0 [(0, .long (fL a0))] [] M (dn_X4_lineCount a0 M) := by
  unfold dn_X4_lineCount
  refine g_iconst hC 1 dX4_lineCount_0 rfl ?_
  refine g_istore_n hC 2 [(2, .int (fI 0)), (0, .long (fL a0))] dX4_lineCount_1 rfl (by decide) rfl rfl ?_
  refine g_lload_n hC 1 3 rfl dX4_lineCount_2 rfl rfl ?_
  refine g_lstore_n hC 4 [(3, .long (fL a0)), (2, .int (fI 0)), (0, .long (fL a0))] dX4_lineCount_3 rfl (by decide) rfl rfl ?_
  refine g_lv [2, 1, 0] rfl ?_
  refine wk_X4_lineCount_L4 hC hr hk _ 600 _ _ _
theorem cn_X4_lineCount (l : Launch) (a0 : Int) (M : fMem) : fMt l vwCl TB yX4_lineCount cX4_lineCount 5 (some .int) 0 0 0 (fun ad => [.long (fL a0)]) M (dn_X4_lineCount a0 M) :=
  fMt.of (by decide +kernel) (fun _ => Nat.le_of_ble_eq_true rfl) (fun p e s m args below meth c D aC ad hC hr hk => wk_X4_lineCount hC hr hk a0 M)
def dn_X4_spread_L13B (P2 : Nat) (a0 a3 : Int) (r : Int → Int → fMem → fOp) (a4 a6 : Int) (M : fMem) : fOp :=
  fLt a6 0 (some (a3, M)) (fRmL a4 32 (fun x3 => fWr M P2 12 a6 x3 (fun M4 => fDvL a4 32 (fun x5 => r x5 (a6 + (-1)) M4))))
def dn_X4_spread_L13 (P2 : Nat) (a0 a3 : Int) : Nat → Int → Int → fMem → fOp
  | 0, _, _, _ => none
  | n + 1, a4, a6, M => dn_X4_spread_L13B P2 a0 a3 (fun a4 a6 M => dn_X4_spread_L13 P2 a0 a3 n a4 a6 M) a4 a6 M
set_option maxRecDepth 100000 in
set_option maxHeartbeats 4000000 in
theorem wk_X4_spread_L13B {l : Launch} {p : Program} {e : Env} {s : State} {m : MethodId} {args : Array Value} {below : List Frame} {meth : Method} {c : Code} {D : va_G} {aC : Nat → ClassId} {ad : Nat → Nat} (hC : fCx p s m args c vwCl D aC TB ad (fFr ad TB) goodTs cX4_spread RX4 7) (hr : meth.sig.returnType = some .int) (hk : meth.locks = false) (P2 : Nat) (hP2 : TB[P2]? = some (0, 12, [])) (a0 a3 : Int) (r : Int → Int → fMem → fOp) (hrc : ∀ (a4 a6 : Int) (M : fMem), GM l p e s m args below meth c D aC ad 7 1 24 0 13 [(0, .long (fL a0)), (2, .ref (ad P2)), (3, .int (fI a3)), (4, .long (fL a4)), (6, .int (fI a6))] [] M (r a4 a6 M)) (a4 a6 : Int) (M : fMem) : GM l p e s m args below meth c D aC ad 7 1 24 0 13 [(0, .long (fL a0)), (2, .ref (ad P2)), (3, .int (fI a3)), (4, .long (fL a4)), (6, .int (fI a6))] [] M (dn_X4_spread_L13B P2 a0 a3 r a4 a6 M) := by
  unfold dn_X4_spread_L13B
  refine g_iload hC 4 15 rfl dX4_spread_13 rfl ?_
  refine g_if_lt hC 43 18 dX4_spread_15 rfl rfl ?_ ?_
  · refine g_iload_n hC 2 44 rfl dX4_spread_43 rfl rfl ?_
    exact g_ireturn hC hr hk dX4_spread_44
  · refine g_aload_n hC 1 19 rfl dX4_spread_18 rfl rfl ?_
    refine g_iload hC 4 21 rfl dX4_spread_19 rfl ?_
    refine g_lload hC 3 23 rfl dX4_spread_21 rfl ?_
    refine g_ldc2 hC 32 26 gw_263 dX4_spread_23 rfl ?_
    refine g_lrem hC 27 dX4_spread_26 rfl (fun x3 => ?_)
    refine g_l2i hC 28 dX4_spread_27 rfl ?_
    refine g_iast hC 29 hP2 (by decide) dX4_spread_28 rfl (fun M4 => ?_)
    refine g_lload hC 3 31 rfl dX4_spread_29 rfl ?_
    refine g_ldc2 hC 32 34 gw_263 dX4_spread_31 rfl ?_
    refine g_ldiv hC 35 dX4_spread_34 rfl (fun x5 => ?_)
    refine g_lstore hC 37 [(4, .long (fL x5)), (0, .long (fL a0)), (2, .ref (ad P2)), (3, .int (fI a3)), (6, .int (fI a6))] dX4_spread_35 (by decide) rfl rfl ?_
    refine g_iinc hC 4 40 [(6, .int (fI (a6 + (-1)))), (4, .long (fL x5)), (0, .long (fL a0)), (2, .ref (ad P2)), (3, .int (fI a3))] rfl dX4_spread_37 (by decide) rfl rfl ?_
    refine g_goto hC 13 dX4_spread_40 rfl ?_
    refine g_lv [2, 3, 4, 1, 0] rfl ?_
    exact hrc _ _ _
set_option maxRecDepth 100000 in
set_option maxHeartbeats 4000000 in
theorem wk_X4_spread_L13 {l : Launch} {p : Program} {e : Env} {s : State} {m : MethodId} {args : Array Value} {below : List Frame} {meth : Method} {c : Code} {D : va_G} {aC : Nat → ClassId} {ad : Nat → Nat} (hC : fCx p s m args c vwCl D aC TB ad (fFr ad TB) goodTs cX4_spread RX4 7) (hr : meth.sig.returnType = some .int) (hk : meth.locks = false) (P2 : Nat) (hP2 : TB[P2]? = some (0, 12, [])) (a0 a3 : Int) (n : Nat) : ∀ (a4 a6 : Int) (M : fMem), GM l p e s m args below meth c D aC ad 7 1 24 0 13 [(0, .long (fL a0)), (2, .ref (ad P2)), (3, .int (fI a3)), (4, .long (fL a4)), (6, .int (fI a6))] [] M (dn_X4_spread_L13 P2 a0 a3 n a4 a6 M) := by
  induction n with
  | zero => intro a4 a6 M; exact g_none
  | succ n ih => intro a4 a6 M; exact wk_X4_spread_L13B hC hr hk P2 hP2 a0 a3 (fun a4 a6 M => dn_X4_spread_L13 P2 a0 a3 n a4 a6 M) ih a4 a6 M
def dn_X4_spread (a0 : Int) (P2 : Nat) (M : fMem) : fOp :=
  fCl (dn_X4_lineCount a0 M) (fun v1 M2 => dn_X4_spread_L13 P2 a0 v1 600 a0 (v1 - 1) M2)
set_option maxRecDepth 100000 in
set_option maxHeartbeats 4000000 in
theorem wk_X4_spread {l : Launch} {p : Program} {e : Env} {s : State} {m : MethodId} {args : Array Value} {below : List Frame} {meth : Method} {c : Code} {D : va_G} {aC : Nat → ClassId} {ad : Nat → Nat} (hC : fCx p s m args c vwCl D aC TB ad (fFr ad TB) goodTs cX4_spread RX4 7) (hr : meth.sig.returnType = some .int) (hk : meth.locks = false) (a0 : Int) (P2 : Nat) (hP2 : TB[P2]? = some (0, 12, [])) (M : fMem) : GM l p e s m args below meth c D aC ad 7 1 24 0 0 [(0, .long (fL a0)), (2, .ref (ad P2))] [] M (dn_X4_spread a0 P2 M) := by
  unfold dn_X4_spread
  refine g_lload_n hC 0 1 rfl dX4_spread_0 rfl rfl ?_
  refine g_cS hC 4 1 [.long (fL a0)] [] (cn_X4_lineCount l a0 _) rfl rfl gw_399 gw_401 gw_66 gw_400 (by decide +kernel) rfl ⟨Nat.le_of_ble_eq_true rfl, Nat.le_of_ble_eq_true rfl⟩ (Nat.le_of_ble_eq_true rfl) ⟨Nat.zero_le _, Nat.zero_le _⟩ dX4_spread_1 rfl (fun v1 => .int (fI v1) :: []) (fun _ => rfl) (fun v1 M2 => ?_)
  refine g_istore_n hC 5 [(3, .int (fI v1)), (0, .long (fL a0)), (2, .ref (ad P2))] dX4_spread_4 rfl (by decide) rfl rfl ?_
  refine g_lload_n hC 1 6 rfl dX4_spread_5 rfl rfl ?_
  refine g_lstore hC 8 [(4, .long (fL a0)), (3, .int (fI v1)), (0, .long (fL a0)), (2, .ref (ad P2))] dX4_spread_6 (by decide) rfl rfl ?_
  refine g_iload_n hC 1 9 rfl dX4_spread_8 rfl rfl ?_
  refine g_iconst hC 10 dX4_spread_9 rfl ?_
  refine g_isub hC 11 dX4_spread_10 rfl ?_
  refine g_istore hC 13 [(6, .int (fI (v1 - 1))), (4, .long (fL a0)), (3, .int (fI v1)), (0, .long (fL a0)), (2, .ref (ad P2))] dX4_spread_11 (by decide) rfl rfl ?_
  refine g_lv [3, 4, 2, 1, 0] rfl ?_
  refine wk_X4_spread_L13 hC hr hk _ hP2 _ _ 600 _ _ _
theorem cn_X4_spread (l : Launch) (a0 : Int) (P2 : Nat) (hP2 : TB[P2]? = some (0, 12, [])) (M : fMem) : fMt l vwCl TB yX4_spread cX4_spread 7 (some .int) 1 24 0 (fun ad => [.long (fL a0), .ref (ad P2)]) M (dn_X4_spread a0 P2 M) :=
  fMt.of (by decide +kernel) (fun _ => Nat.le_of_ble_eq_true rfl) (fun p e s m args below meth c D aC ad hC hr hk => wk_X4_spread hC hr hk a0 P2 hP2 M)
