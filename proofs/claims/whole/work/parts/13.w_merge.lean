def dn_X3_isSame_L16B (P0 : Nat) (P3 : Nat) (a1 a2 a4 a5 : Int) (r : Int → fMem → fOp) (a6 : Int) (M : fMem) : fOp :=
  fLe (a2 - a1) a6 (fRz 1 M) (fRd M P0 12 (a1 + a6) (fun x1 => fRd M P3 12 (a4 + a6) (fun x2 => fEq x1 x2 (r (a6 + 1) M) (fRz 0 M))))
def dn_X3_isSame_L16 (P0 : Nat) (P3 : Nat) (a1 a2 a4 a5 : Int) : Nat → Int → fMem → fOp
  | 0, _, _ => none
  | n + 1, a6, M => dn_X3_isSame_L16B P0 P3 a1 a2 a4 a5 (fun a6 M => dn_X3_isSame_L16 P0 P3 a1 a2 a4 a5 n a6 M) a6 M
set_option maxRecDepth 100000 in
set_option maxHeartbeats 4000000 in
theorem wk_X3_isSame_L16B {l : Launch} {p : Program} {e : Env} {s : State} {m : MethodId} {args : Array Value} {below : List Frame} {meth : Method} {c : Code} {D : va_G} {aC : Nat → ClassId} {ad : Nat → Nat} (hC : fCx p s m args c vwCl D aC TB ad (fFr ad TB) goodTs cX3_isSame RX3 7) (hr : meth.sig.returnType = some .boolean) (hk : meth.locks = false) (P0 : Nat) (hP0 : TB[P0]? = some (0, 12, [])) (P3 : Nat) (hP3 : TB[P3]? = some (0, 12, [])) (a1 a2 a4 a5 : Int) (r : Int → fMem → fOp) (hrc : ∀ (a6 : Int) (M : fMem), GM l p e s m args below meth c D aC ad 7 0 0 0 16 [(0, .ref (ad P0)), (1, .int (fI a1)), (2, .int (fI a2)), (3, .ref (ad P3)), (4, .int (fI a4)), (5, .int (fI a5)), (6, .int (fI a6))] [] M (r a6 M)) (a6 : Int) (M : fMem) : GM l p e s m args below meth c D aC ad 7 0 0 0 16 [(0, .ref (ad P0)), (1, .int (fI a1)), (2, .int (fI a2)), (3, .ref (ad P3)), (4, .int (fI a4)), (5, .int (fI a5)), (6, .int (fI a6))] [] M (dn_X3_isSame_L16B P0 P3 a1 a2 a4 a5 r a6 M) := by
  unfold dn_X3_isSame_L16B
  refine g_iload hC 6 18 rfl dX3_isSame_16 rfl ?_
  refine g_iload_n hC 2 19 rfl dX3_isSame_18 rfl rfl ?_
  refine g_iload_n hC 1 20 rfl dX3_isSame_19 rfl rfl ?_
  refine g_isub hC 21 dX3_isSame_20 rfl ?_
  refine g_icmp_ge hC 48 24 dX3_isSame_21 rfl rfl ?_ ?_
  · refine g_iconst hC 49 dX3_isSame_48 rfl ?_
    exact g_zreturn hC hr hk dX3_isSame_49
  · refine g_aload_n hC 0 25 rfl dX3_isSame_24 rfl rfl ?_
    refine g_iload_n hC 1 26 rfl dX3_isSame_25 rfl rfl ?_
    refine g_iload hC 6 28 rfl dX3_isSame_26 rfl ?_
    refine g_iadd hC 29 dX3_isSame_28 rfl ?_
    refine g_iald hC 30 hP0 (by decide) dX3_isSame_29 rfl (fun x1 => ?_)
    refine g_aload_n hC 3 31 rfl dX3_isSame_30 rfl rfl ?_
    refine g_iload hC 4 33 rfl dX3_isSame_31 rfl ?_
    refine g_iload hC 6 35 rfl dX3_isSame_33 rfl ?_
    refine g_iadd hC 36 dX3_isSame_35 rfl ?_
    refine g_iald hC 37 hP3 (by decide) dX3_isSame_36 rfl (fun x2 => ?_)
    refine g_icmp_eq hC 42 40 dX3_isSame_37 rfl rfl ?_ ?_
    · refine g_iinc hC 6 45 [(6, .int (fI (a6 + 1))), (0, .ref (ad P0)), (1, .int (fI a1)), (2, .int (fI a2)), (3, .ref (ad P3)), (4, .int (fI a4)), (5, .int (fI a5))] rfl dX3_isSame_42 (by decide) rfl rfl ?_
      refine g_goto hC 16 dX3_isSame_45 rfl ?_
      refine g_lv [1, 2, 3, 4, 5, 6, 0] rfl ?_
      exact hrc _ _
    · refine g_iconst hC 41 dX3_isSame_40 rfl ?_
      exact g_zreturn hC hr hk dX3_isSame_41
set_option maxRecDepth 100000 in
set_option maxHeartbeats 4000000 in
theorem wk_X3_isSame_L16 {l : Launch} {p : Program} {e : Env} {s : State} {m : MethodId} {args : Array Value} {below : List Frame} {meth : Method} {c : Code} {D : va_G} {aC : Nat → ClassId} {ad : Nat → Nat} (hC : fCx p s m args c vwCl D aC TB ad (fFr ad TB) goodTs cX3_isSame RX3 7) (hr : meth.sig.returnType = some .boolean) (hk : meth.locks = false) (P0 : Nat) (hP0 : TB[P0]? = some (0, 12, [])) (P3 : Nat) (hP3 : TB[P3]? = some (0, 12, [])) (a1 a2 a4 a5 : Int) (n : Nat) : ∀ (a6 : Int) (M : fMem), GM l p e s m args below meth c D aC ad 7 0 0 0 16 [(0, .ref (ad P0)), (1, .int (fI a1)), (2, .int (fI a2)), (3, .ref (ad P3)), (4, .int (fI a4)), (5, .int (fI a5)), (6, .int (fI a6))] [] M (dn_X3_isSame_L16 P0 P3 a1 a2 a4 a5 n a6 M) := by
  induction n with
  | zero => intro a6 M; exact g_none
  | succ n ih => intro a6 M; exact wk_X3_isSame_L16B hC hr hk P0 hP0 P3 hP3 a1 a2 a4 a5 (fun a6 M => dn_X3_isSame_L16 P0 P3 a1 a2 a4 a5 n a6 M) ih a6 M
def dn_X3_isSame (P0 : Nat) (a1 : Int) (a2 : Int) (P3 : Nat) (a4 : Int) (a5 : Int) (M : fMem) : fOp :=
  fEq (a2 - a1) (a5 - a4) (dn_X3_isSame_L16 P0 P3 a1 a2 a4 a5 600 0 M) (fRz 0 M)
set_option maxRecDepth 100000 in
set_option maxHeartbeats 4000000 in
theorem wk_X3_isSame {l : Launch} {p : Program} {e : Env} {s : State} {m : MethodId} {args : Array Value} {below : List Frame} {meth : Method} {c : Code} {D : va_G} {aC : Nat → ClassId} {ad : Nat → Nat} (hC : fCx p s m args c vwCl D aC TB ad (fFr ad TB) goodTs cX3_isSame RX3 7) (hr : meth.sig.returnType = some .boolean) (hk : meth.locks = false) (P0 : Nat) (hP0 : TB[P0]? = some (0, 12, [])) (a1 : Int) (a2 : Int) (P3 : Nat) (hP3 : TB[P3]? = some (0, 12, [])) (a4 : Int) (a5 : Int) (M : fMem) : GM l p e s m args below meth c D aC ad 7 0 0 0 0 [(0, .ref (ad P0)), (1, .int (fI a1)), (2, .int (fI a2)), (3, .ref (ad P3)), (4, .int (fI a4)), (5, .int (fI a5))] [] M (dn_X3_isSame P0 a1 a2 P3 a4 a5 M) := by
  unfold dn_X3_isSame
  refine g_iload_n hC 2 1 rfl dX3_isSame_0 rfl rfl ?_
  refine g_iload_n hC 1 2 rfl dX3_isSame_1 rfl rfl ?_
  refine g_isub hC 3 dX3_isSame_2 rfl ?_
  refine g_iload hC 5 5 rfl dX3_isSame_3 rfl ?_
  refine g_iload hC 4 7 rfl dX3_isSame_5 rfl ?_
  refine g_isub hC 8 dX3_isSame_7 rfl ?_
  refine g_icmp_eq hC 13 11 dX3_isSame_8 rfl rfl ?_ ?_
  · refine g_iconst hC 14 dX3_isSame_13 rfl ?_
    refine g_istore hC 16 [(6, .int (fI 0)), (0, .ref (ad P0)), (1, .int (fI a1)), (2, .int (fI a2)), (3, .ref (ad P3)), (4, .int (fI a4)), (5, .int (fI a5))] dX3_isSame_14 (by decide) rfl rfl ?_
    refine g_lv [1, 2, 3, 4, 5, 6, 0] rfl ?_
    refine wk_X3_isSame_L16 hC hr hk _ hP0 _ hP3 _ _ _ _ 600 _ _
  · refine g_iconst hC 12 dX3_isSame_11 rfl ?_
    exact g_zreturn hC hr hk dX3_isSame_12
theorem cn_X3_isSame (l : Launch) (P0 : Nat) (hP0 : TB[P0]? = some (0, 12, [])) (a1 : Int) (a2 : Int) (P3 : Nat) (hP3 : TB[P3]? = some (0, 12, [])) (a4 : Int) (a5 : Int) (M : fMem) : fMt l vwCl TB yX3_isSame cX3_isSame 7 (some .boolean) 0 0 0 (fun ad => [.ref (ad P0), .int (fI a1), .int (fI a2), .ref (ad P3), .int (fI a4), .int (fI a5)]) M (dn_X3_isSame P0 a1 a2 P3 a4 a5 M) :=
  fMt.of (by decide +kernel) (fun _ => Nat.le_of_ble_eq_true rfl) (fun p e s m args below meth c D aC ad hC hr hk => wk_X3_isSame hC hr hk P0 hP0 a1 a2 P3 hP3 a4 a5 M)
def dn_X3_take_J24  (a1 : Int) (M : fMem) : fOp :=
  fGt M 78 3 (fun x2 => fPt M 78 3 (x2 + 1) (fun M3 => some (0, M3)))
set_option maxRecDepth 100000 in
set_option maxHeartbeats 4000000 in
theorem wk_X3_take_J24 {l : Launch} {p : Program} {e : Env} {s : State} {m : MethodId} {args : Array Value} {below : List Frame} {meth : Method} {c : Code} {D : va_G} {aC : Nat → ClassId} {ad : Nat → Nat} (hC : fCx p s m args c vwCl D aC TB ad (fFr ad TB) goodTs cX3_take RX3 2) (hr : meth.sig.returnType = none) (hk : meth.locks = false) (a1 : Int)  (M : fMem) : GM l p e s m args below meth c D aC ad 2 0 0 2 24 [(0, .ref (ad 78)), (1, .int (fI a1))] [] M (dn_X3_take_J24 a1 M) := by
  unfold dn_X3_take_J24
  refine g_aload_n hC 0 25 rfl dX3_take_24 rfl rfl ?_
  refine g_dup hC 26 dX3_take_25 rfl rfl ?_
  refine g_getI hC 29 inX3 rfl 3 (by decide) gw_209 rfl tb_MG rfl dX3_take_26 rfl (fun x2 => ?_)
  refine g_iconst hC 30 dX3_take_29 rfl ?_
  refine g_iadd hC 31 dX3_take_30 rfl ?_
  refine g_putI hC 34 tyX3 tyX3_ok nmX3 inX3 rfl 3 (by decide) gw_209 rfl rfl (by decide +kernel) tb_MG rfl dX3_take_31 rfl (fun M3 => ?_)
  exact g_return hC hr hk dX3_take_34
def dn_X3_take (a1 : Int) (M : fMem) : fOp :=
  fGt M 78 3 (fun x1 => fLe 12 x1 (dn_X3_take_J24 a1 M) (fGt M 78 2 (fun x4 => fX2 a1 (fPt M 78 2 ((x4 * 32) + a1) (fun M5 => dn_X3_take_J24 a1 M5)))))
set_option maxRecDepth 100000 in
set_option maxHeartbeats 4000000 in
theorem wk_X3_take {l : Launch} {p : Program} {e : Env} {s : State} {m : MethodId} {args : Array Value} {below : List Frame} {meth : Method} {c : Code} {D : va_G} {aC : Nat → ClassId} {ad : Nat → Nat} (hC : fCx p s m args c vwCl D aC TB ad (fFr ad TB) goodTs cX3_take RX3 2) (hr : meth.sig.returnType = none) (hk : meth.locks = false) (a1 : Int) (M : fMem) : GM l p e s m args below meth c D aC ad 2 0 0 2 0 [(0, .ref (ad 78)), (1, .int (fI a1))] [] M (dn_X3_take a1 M) := by
  unfold dn_X3_take
  refine g_aload_n hC 0 1 rfl dX3_take_0 rfl rfl ?_
  refine g_getI hC 4 inX3 rfl 3 (by decide) gw_209 rfl tb_MG rfl dX3_take_1 rfl (fun x1 => ?_)
  refine g_bipush hC 6 dX3_take_4 rfl (by decide +kernel) ?_
  refine g_icmp_ge hC 24 9 dX3_take_6 rfl rfl ?_ ?_
  · exact wk_X3_take_J24 hC hr hk _ _
  · refine g_aload_n hC 0 10 rfl dX3_take_9 rfl rfl ?_
    refine g_aload_n hC 0 11 rfl dX3_take_10 rfl rfl ?_
    refine g_getJ hC 14 inX3 rfl 2 (by decide) gw_207 rfl tb_MG rfl dX3_take_11 rfl (fun x4 => ?_)
    refine g_ldc2 hC 32 17 gw_429 dX3_take_14 rfl ?_
    refine g_lmul hC 18 dX3_take_17 rfl ?_
    refine g_iload_n hC 1 19 rfl dX3_take_18 rfl rfl ?_
    refine g_i2l hC 20 dX3_take_19 rfl ?_
    refine g_ladd hC 21 dX3_take_20 rfl ?_
    refine g_putJ hC 24 tyX3 tyX3_ok nmX3 inX3 rfl 2 (by decide) gw_207 rfl rfl (by decide +kernel) tb_MG rfl dX3_take_21 rfl (fun M5 => ?_)
    exact wk_X3_take_J24 hC hr hk _ _
theorem cn_X3_take (l : Launch) (a1 : Int) (M : fMem) : fMt l vwCl TB yX3_take cX3_take 2 (none) 0 0 2 (fun ad => [.ref (ad 78), .int (fI a1)]) M (dn_X3_take a1 M) :=
  fMt.of (by decide +kernel) (fun _ => Nat.le_of_ble_eq_true rfl) (fun p e s m args below meth c D aC ad hC hr hk => wk_X3_take hC hr hk a1 M)
def dn_X3_takeAll_L3B (P1 : Nat) (a2 a3 : Int) (r : Int → fMem → fOp) (a4 : Int) (M : fMem) : fOp :=
  fLe a3 a4 (some (0, M)) (fRd M P1 12 a4 (fun x1 => fCl (dn_X3_take x1 M) (fun _ M3 => r (a4 + 1) M3)))
def dn_X3_takeAll_L3 (P1 : Nat) (a2 a3 : Int) : Nat → Int → fMem → fOp
  | 0, _, _ => none
  | n + 1, a4, M => dn_X3_takeAll_L3B P1 a2 a3 (fun a4 M => dn_X3_takeAll_L3 P1 a2 a3 n a4 M) a4 M
set_option maxRecDepth 100000 in
set_option maxHeartbeats 4000000 in
theorem wk_X3_takeAll_L3B {l : Launch} {p : Program} {e : Env} {s : State} {m : MethodId} {args : Array Value} {below : List Frame} {meth : Method} {c : Code} {D : va_G} {aC : Nat → ClassId} {ad : Nat → Nat} (hC : fCx p s m args c vwCl D aC TB ad (fFr ad TB) goodTs cX3_takeAll RX3 5) (hr : meth.sig.returnType = none) (hk : meth.locks = false) (P1 : Nat) (hP1 : TB[P1]? = some (0, 12, [])) (a2 a3 : Int) (r : Int → fMem → fOp) (hrc : ∀ (a4 : Int) (M : fMem), GM l p e s m args below meth c D aC ad 5 1 21 2 3 [(0, .ref (ad 78)), (1, .ref (ad P1)), (2, .int (fI a2)), (3, .int (fI a3)), (4, .int (fI a4))] [] M (r a4 M)) (a4 : Int) (M : fMem) : GM l p e s m args below meth c D aC ad 5 1 21 2 3 [(0, .ref (ad 78)), (1, .ref (ad P1)), (2, .int (fI a2)), (3, .int (fI a3)), (4, .int (fI a4))] [] M (dn_X3_takeAll_L3B P1 a2 a3 r a4 M) := by
  unfold dn_X3_takeAll_L3B
  refine g_iload hC 4 5 rfl dX3_takeAll_3 rfl ?_
  refine g_iload_n hC 3 6 rfl dX3_takeAll_5 rfl rfl ?_
  refine g_icmp_ge hC 23 9 dX3_takeAll_6 rfl rfl ?_ ?_
  · exact g_return hC hr hk dX3_takeAll_23
  · refine g_aload_n hC 0 10 rfl dX3_takeAll_9 rfl rfl ?_
    refine g_aload_n hC 1 11 rfl dX3_takeAll_10 rfl rfl ?_
    refine g_iload hC 4 13 rfl dX3_takeAll_11 rfl ?_
    refine g_iald hC 14 hP1 (by decide) dX3_takeAll_13 rfl (fun x1 => ?_)
    refine g_cV hC 17 1 [.int (fI x1)] [] (cn_X3_take l x1 _) rfl rfl tb_MG rfl gw_425 gw_428 gw_64 gw_427 gw_27 (by decide +kernel) rfl ⟨Nat.le_of_ble_eq_true rfl, Nat.le_of_ble_eq_true rfl⟩ (Nat.le_of_ble_eq_true rfl) ⟨Nat.zero_le _, Nat.zero_le _⟩ dX3_takeAll_14 rfl (fun _ => []) (fun _ => rfl) (fun _ M3 => ?_)
    refine g_iinc hC 4 20 [(4, .int (fI (a4 + 1))), (0, .ref (ad 78)), (1, .ref (ad P1)), (2, .int (fI a2)), (3, .int (fI a3))] rfl dX3_takeAll_17 (by decide) rfl rfl ?_
    refine g_goto hC 3 dX3_takeAll_20 rfl ?_
    refine g_lv [1, 2, 3, 4, 0] rfl ?_
    exact hrc _ _
set_option maxRecDepth 100000 in
set_option maxHeartbeats 4000000 in
theorem wk_X3_takeAll_L3 {l : Launch} {p : Program} {e : Env} {s : State} {m : MethodId} {args : Array Value} {below : List Frame} {meth : Method} {c : Code} {D : va_G} {aC : Nat → ClassId} {ad : Nat → Nat} (hC : fCx p s m args c vwCl D aC TB ad (fFr ad TB) goodTs cX3_takeAll RX3 5) (hr : meth.sig.returnType = none) (hk : meth.locks = false) (P1 : Nat) (hP1 : TB[P1]? = some (0, 12, [])) (a2 a3 : Int) (n : Nat) : ∀ (a4 : Int) (M : fMem), GM l p e s m args below meth c D aC ad 5 1 21 2 3 [(0, .ref (ad 78)), (1, .ref (ad P1)), (2, .int (fI a2)), (3, .int (fI a3)), (4, .int (fI a4))] [] M (dn_X3_takeAll_L3 P1 a2 a3 n a4 M) := by
  induction n with
  | zero => intro a4 M; exact g_none
  | succ n ih => intro a4 M; exact wk_X3_takeAll_L3B hC hr hk P1 hP1 a2 a3 (fun a4 M => dn_X3_takeAll_L3 P1 a2 a3 n a4 M) ih a4 M
def dn_X3_takeAll (P1 : Nat) (a2 : Int) (a3 : Int) (M : fMem) : fOp :=
  dn_X3_takeAll_L3 P1 a2 a3 600 a2 M
set_option maxRecDepth 100000 in
set_option maxHeartbeats 4000000 in
theorem wk_X3_takeAll {l : Launch} {p : Program} {e : Env} {s : State} {m : MethodId} {args : Array Value} {below : List Frame} {meth : Method} {c : Code} {D : va_G} {aC : Nat → ClassId} {ad : Nat → Nat} (hC : fCx p s m args c vwCl D aC TB ad (fFr ad TB) goodTs cX3_takeAll RX3 5) (hr : meth.sig.returnType = none) (hk : meth.locks = false) (P1 : Nat) (hP1 : TB[P1]? = some (0, 12, [])) (a2 : Int) (a3 : Int) (M : fMem) : GM l p e s m args below meth c D aC ad 5 1 21 2 0 [(0, .ref (ad 78)), (1, .ref (ad P1)), (2, .int (fI a2)), (3, .int (fI a3))] [] M (dn_X3_takeAll P1 a2 a3 M) := by
  unfold dn_X3_takeAll
  refine g_iload_n hC 2 1 rfl dX3_takeAll_0 rfl rfl ?_
  refine g_istore hC 3 [(4, .int (fI a2)), (0, .ref (ad 78)), (1, .ref (ad P1)), (2, .int (fI a2)), (3, .int (fI a3))] dX3_takeAll_1 (by decide) rfl rfl ?_
  refine g_lv [1, 2, 3, 4, 0] rfl ?_
  refine wk_X3_takeAll_L3 hC hr hk _ hP1 _ _ 600 _ _
theorem cn_X3_takeAll (l : Launch) (P1 : Nat) (hP1 : TB[P1]? = some (0, 12, [])) (a2 : Int) (a3 : Int) (M : fMem) : fMt l vwCl TB yX3_takeAll cX3_takeAll 5 (none) 1 21 2 (fun ad => [.ref (ad 78), .ref (ad P1), .int (fI a2), .int (fI a3)]) M (dn_X3_takeAll P1 a2 a3 M) :=
  fMt.of (by decide +kernel) (fun _ => Nat.le_of_ble_eq_true rfl) (fun p e s m args below meth c D aC ad hC hr hk => wk_X3_takeAll hC hr hk P1 hP1 a2 a3 M)
def dn_X3_mergePart_J96  (a1 a2 a3 a4 a5 a6 : Int) (M : fMem) : fOp :=
  fCl (dn_X3_takeAll 81 a3 a4 M) (fun _ M6 => some (0, M6))
set_option maxRecDepth 100000 in
set_option maxHeartbeats 4000000 in
theorem wk_X3_mergePart_J96 {l : Launch} {p : Program} {e : Env} {s : State} {m : MethodId} {args : Array Value} {below : List Frame} {meth : Method} {c : Code} {D : va_G} {aC : Nat → ClassId} {ad : Nat → Nat} (hC : fCx p s m args c vwCl D aC TB ad (fFr ad TB) goodTs cX3_mergePart RX3 7) (hr : meth.sig.returnType = none) (hk : meth.locks = false) (a1 a2 a3 a4 a5 a6 : Int)  (M : fMem) : GM l p e s m args below meth c D aC ad 7 2 45 2 96 [(0, .ref (ad 78)), (1, .int (fI a1)), (2, .int (fI a2)), (3, .int (fI a3)), (4, .int (fI a4)), (5, .int (fI a5)), (6, .int (fI a6))] [] M (dn_X3_mergePart_J96 a1 a2 a3 a4 a5 a6 M) := by
  unfold dn_X3_mergePart_J96
  refine g_aload_n hC 0 97 rfl dX3_mergePart_96 rfl rfl ?_
  refine g_aload_n hC 0 98 rfl dX3_mergePart_97 rfl rfl ?_
  refine g_getA hC 101 inX3 rfl 0 (by decide) gw_205 rfl tb_MG rfl dX3_mergePart_98 rfl ?_
  refine g_getAN hC 104 inX1 rfl 1 (by decide) gw_173 rfl (tb_D fIsD_79) rfl dX3_mergePart_101 rfl ?_
  refine g_iload_n hC 3 105 rfl dX3_mergePart_104 rfl rfl ?_
  refine g_iload hC 4 107 rfl dX3_mergePart_105 rfl ?_
  refine g_cV hC 110 3 [.ref (ad 81), .int (fI a3), .int (fI a4)] [] (cn_X3_takeAll l 81 (tb_D_2 fIsD_79) a3 a4 _) rfl rfl tb_MG rfl gw_421 gw_424 gw_64 gw_423 gw_26 (by decide +kernel) rfl ⟨Nat.le_of_ble_eq_true rfl, Nat.le_of_ble_eq_true rfl⟩ (Nat.le_of_ble_eq_true rfl) ⟨Nat.zero_le _, Nat.zero_le _⟩ dX3_mergePart_107 rfl (fun _ => []) (fun _ => rfl) (fun _ M6 => ?_)
  refine g_goto hC 165 dX3_mergePart_110 rfl ?_
  exact g_return hC hr hk dX3_mergePart_165
def dn_X3_mergePart (a1 : Int) (a2 : Int) (a3 : Int) (a4 : Int) (a5 : Int) (a6 : Int) (M : fMem) : fOp :=
  fCl (dn_X3_isSame 80 a1 a2 81 a3 a4 M) (fun v1 M2 => fEq v1 0 (fCl (dn_X3_isSame 80 a1 a2 99 a5 a6 M2) (fun v3 M4 => fEq v3 0 (fCl (dn_X3_isSame 81 a3 a4 99 a5 a6 M4) (fun v7 M8 => fEq v7 0 (fPz M8 78 4 1 (fun M9 => fCl (dn_X3_take 17 M9) (fun _ M11 => fCl (dn_X3_takeAll 81 a3 a4 M11) (fun _ M13 => fCl (dn_X3_take 18 M13) (fun _ M15 => fCl (dn_X3_takeAll 99 a5 a6 M15) (fun _ M17 => fCl (dn_X3_take 19 M17) (fun _ M19 => some (0, M19)))))))) (dn_X3_mergePart_J96 a1 a2 a3 a4 a5 a6 M8))) (dn_X3_mergePart_J96 a1 a2 a3 a4 a5 a6 M4))) (fCl (dn_X3_takeAll 99 a5 a6 M2) (fun _ M21 => some (0, M21))))
set_option maxRecDepth 100000 in
set_option maxHeartbeats 4000000 in
theorem wk_X3_mergePart {l : Launch} {p : Program} {e : Env} {s : State} {m : MethodId} {args : Array Value} {below : List Frame} {meth : Method} {c : Code} {D : va_G} {aC : Nat → ClassId} {ad : Nat → Nat} (hC : fCx p s m args c vwCl D aC TB ad (fFr ad TB) goodTs cX3_mergePart RX3 7) (hr : meth.sig.returnType = none) (hk : meth.locks = false) (a1 : Int) (a2 : Int) (a3 : Int) (a4 : Int) (a5 : Int) (a6 : Int) (M : fMem) : GM l p e s m args below meth c D aC ad 7 2 45 2 0 [(0, .ref (ad 78)), (1, .int (fI a1)), (2, .int (fI a2)), (3, .int (fI a3)), (4, .int (fI a4)), (5, .int (fI a5)), (6, .int (fI a6))] [] M (dn_X3_mergePart a1 a2 a3 a4 a5 a6 M) := by
  unfold dn_X3_mergePart
  refine g_aload_n hC 0 1 rfl dX3_mergePart_0 rfl rfl ?_
  refine g_getA hC 4 inX3 rfl 0 (by decide) gw_205 rfl tb_MG rfl dX3_mergePart_1 rfl ?_
  refine g_getAN hC 7 inX1 rfl 0 (by decide) gw_171 rfl (tb_D fIsD_79) rfl dX3_mergePart_4 rfl ?_
  refine g_iload_n hC 1 8 rfl dX3_mergePart_7 rfl rfl ?_
  refine g_iload_n hC 2 9 rfl dX3_mergePart_8 rfl rfl ?_
  refine g_aload_n hC 0 10 rfl dX3_mergePart_9 rfl rfl ?_
  refine g_getA hC 13 inX3 rfl 0 (by decide) gw_205 rfl tb_MG rfl dX3_mergePart_10 rfl ?_
  refine g_getAN hC 16 inX1 rfl 1 (by decide) gw_173 rfl (tb_D fIsD_79) rfl dX3_mergePart_13 rfl ?_
  refine g_iload_n hC 3 17 rfl dX3_mergePart_16 rfl rfl ?_
  refine g_iload hC 4 19 rfl dX3_mergePart_17 rfl ?_
  refine g_cS hC 22 6 [.ref (ad 80), .int (fI a1), .int (fI a2), .ref (ad 81), .int (fI a3), .int (fI a4)] [] (cn_X3_isSame l 80 (tb_D_1 fIsD_79) a1 a2 81 (tb_D_2 fIsD_79) a3 a4 _) rfl rfl gw_418 gw_420 gw_64 gw_419 (by decide +kernel) rfl ⟨Nat.le_of_ble_eq_true rfl, Nat.le_of_ble_eq_true rfl⟩ (Nat.le_of_ble_eq_true rfl) ⟨Nat.zero_le _, Nat.zero_le _⟩ dX3_mergePart_19 rfl (fun v1 => .int (fI v1) :: []) (fun _ => rfl) (fun v1 M2 => ?_)
  refine g_if_eq hC 43 25 dX3_mergePart_22 rfl rfl ?_ ?_
  · refine g_aload_n hC 0 44 rfl dX3_mergePart_43 rfl rfl ?_
    refine g_getA hC 47 inX3 rfl 0 (by decide) gw_205 rfl tb_MG rfl dX3_mergePart_44 rfl ?_
    refine g_getAN hC 50 inX1 rfl 0 (by decide) gw_171 rfl (tb_D fIsD_79) rfl dX3_mergePart_47 rfl ?_
    refine g_iload_n hC 1 51 rfl dX3_mergePart_50 rfl rfl ?_
    refine g_iload_n hC 2 52 rfl dX3_mergePart_51 rfl rfl ?_
    refine g_aload_n hC 0 53 rfl dX3_mergePart_52 rfl rfl ?_
    refine g_getA hC 56 inX3 rfl 1 (by decide) gw_206 rfl tb_MG rfl dX3_mergePart_53 rfl ?_
    refine g_getAN hC 59 inX1 rfl 1 (by decide) gw_173 rfl (tb_D fIsD_97) rfl dX3_mergePart_56 rfl ?_
    refine g_iload hC 5 61 rfl dX3_mergePart_59 rfl ?_
    refine g_iload hC 6 63 rfl dX3_mergePart_61 rfl ?_
    refine g_cS hC 66 6 [.ref (ad 80), .int (fI a1), .int (fI a2), .ref (ad 99), .int (fI a5), .int (fI a6)] [] (cn_X3_isSame l 80 (tb_D_1 fIsD_79) a1 a2 99 (tb_D_2 fIsD_97) a5 a6 _) rfl rfl gw_418 gw_420 gw_64 gw_419 (by decide +kernel) rfl ⟨Nat.le_of_ble_eq_true rfl, Nat.le_of_ble_eq_true rfl⟩ (Nat.le_of_ble_eq_true rfl) ⟨Nat.zero_le _, Nat.zero_le _⟩ dX3_mergePart_63 rfl (fun v3 => .int (fI v3) :: []) (fun _ => rfl) (fun v3 M4 => ?_)
    refine g_if_ne hC 96 69 dX3_mergePart_66 rfl rfl ?_ ?_
    · exact wk_X3_mergePart_J96 hC hr hk _ _ _ _ _ _ _
    · refine g_aload_n hC 0 70 rfl dX3_mergePart_69 rfl rfl ?_
      refine g_getA hC 73 inX3 rfl 0 (by decide) gw_205 rfl tb_MG rfl dX3_mergePart_70 rfl ?_
      refine g_getAN hC 76 inX1 rfl 1 (by decide) gw_173 rfl (tb_D fIsD_79) rfl dX3_mergePart_73 rfl ?_
      refine g_iload_n hC 3 77 rfl dX3_mergePart_76 rfl rfl ?_
      refine g_iload hC 4 79 rfl dX3_mergePart_77 rfl ?_
      refine g_aload_n hC 0 80 rfl dX3_mergePart_79 rfl rfl ?_
      refine g_getA hC 83 inX3 rfl 1 (by decide) gw_206 rfl tb_MG rfl dX3_mergePart_80 rfl ?_
      refine g_getAN hC 86 inX1 rfl 1 (by decide) gw_173 rfl (tb_D fIsD_97) rfl dX3_mergePart_83 rfl ?_
      refine g_iload hC 5 88 rfl dX3_mergePart_86 rfl ?_
      refine g_iload hC 6 90 rfl dX3_mergePart_88 rfl ?_
      refine g_cS hC 93 6 [.ref (ad 81), .int (fI a3), .int (fI a4), .ref (ad 99), .int (fI a5), .int (fI a6)] [] (cn_X3_isSame l 81 (tb_D_2 fIsD_79) a3 a4 99 (tb_D_2 fIsD_97) a5 a6 _) rfl rfl gw_418 gw_420 gw_64 gw_419 (by decide +kernel) rfl ⟨Nat.le_of_ble_eq_true rfl, Nat.le_of_ble_eq_true rfl⟩ (Nat.le_of_ble_eq_true rfl) ⟨Nat.zero_le _, Nat.zero_le _⟩ dX3_mergePart_90 rfl (fun v7 => .int (fI v7) :: []) (fun _ => rfl) (fun v7 M8 => ?_)
      refine g_if_eq hC 113 96 dX3_mergePart_93 rfl rfl ?_ ?_
      · refine g_aload_n hC 0 114 rfl dX3_mergePart_113 rfl rfl ?_
        refine g_iconst hC 115 dX3_mergePart_114 rfl ?_
        refine g_putZ hC 118 tyX3 tyX3_ok nmX3 inX3 rfl 4 (by decide) gw_210 rfl rfl (by decide +kernel) tb_MG rfl dX3_mergePart_115 rfl (fun M9 => ?_)
        refine g_aload_n hC 0 119 rfl dX3_mergePart_118 rfl rfl ?_
        refine g_bipush hC 121 dX3_mergePart_119 rfl (by decide +kernel) ?_
        refine g_cV hC 124 1 [.int (fI 17)] [] (cn_X3_take l 17 _) rfl rfl tb_MG rfl gw_425 gw_428 gw_64 gw_427 gw_27 (by decide +kernel) rfl ⟨Nat.le_of_ble_eq_true rfl, Nat.le_of_ble_eq_true rfl⟩ (Nat.le_of_ble_eq_true rfl) ⟨Nat.zero_le _, Nat.zero_le _⟩ dX3_mergePart_121 rfl (fun _ => []) (fun _ => rfl) (fun _ M11 => ?_)
        refine g_aload_n hC 0 125 rfl dX3_mergePart_124 rfl rfl ?_
        refine g_aload_n hC 0 126 rfl dX3_mergePart_125 rfl rfl ?_
        refine g_getA hC 129 inX3 rfl 0 (by decide) gw_205 rfl tb_MG rfl dX3_mergePart_126 rfl ?_
        refine g_getAN hC 132 inX1 rfl 1 (by decide) gw_173 rfl (tb_D fIsD_79) rfl dX3_mergePart_129 rfl ?_
        refine g_iload_n hC 3 133 rfl dX3_mergePart_132 rfl rfl ?_
        refine g_iload hC 4 135 rfl dX3_mergePart_133 rfl ?_
        refine g_cV hC 138 3 [.ref (ad 81), .int (fI a3), .int (fI a4)] [] (cn_X3_takeAll l 81 (tb_D_2 fIsD_79) a3 a4 _) rfl rfl tb_MG rfl gw_421 gw_424 gw_64 gw_423 gw_26 (by decide +kernel) rfl ⟨Nat.le_of_ble_eq_true rfl, Nat.le_of_ble_eq_true rfl⟩ (Nat.le_of_ble_eq_true rfl) ⟨Nat.zero_le _, Nat.zero_le _⟩ dX3_mergePart_135 rfl (fun _ => []) (fun _ => rfl) (fun _ M13 => ?_)
        refine g_aload_n hC 0 139 rfl dX3_mergePart_138 rfl rfl ?_
        refine g_bipush hC 141 dX3_mergePart_139 rfl (by decide +kernel) ?_
        refine g_cV hC 144 1 [.int (fI 18)] [] (cn_X3_take l 18 _) rfl rfl tb_MG rfl gw_425 gw_428 gw_64 gw_427 gw_27 (by decide +kernel) rfl ⟨Nat.le_of_ble_eq_true rfl, Nat.le_of_ble_eq_true rfl⟩ (Nat.le_of_ble_eq_true rfl) ⟨Nat.zero_le _, Nat.zero_le _⟩ dX3_mergePart_141 rfl (fun _ => []) (fun _ => rfl) (fun _ M15 => ?_)
        refine g_aload_n hC 0 145 rfl dX3_mergePart_144 rfl rfl ?_
        refine g_aload_n hC 0 146 rfl dX3_mergePart_145 rfl rfl ?_
        refine g_getA hC 149 inX3 rfl 1 (by decide) gw_206 rfl tb_MG rfl dX3_mergePart_146 rfl ?_
        refine g_getAN hC 152 inX1 rfl 1 (by decide) gw_173 rfl (tb_D fIsD_97) rfl dX3_mergePart_149 rfl ?_
        refine g_iload hC 5 154 rfl dX3_mergePart_152 rfl ?_
        refine g_iload hC 6 156 rfl dX3_mergePart_154 rfl ?_
        refine g_cV hC 159 3 [.ref (ad 99), .int (fI a5), .int (fI a6)] [] (cn_X3_takeAll l 99 (tb_D_2 fIsD_97) a5 a6 _) rfl rfl tb_MG rfl gw_421 gw_424 gw_64 gw_423 gw_26 (by decide +kernel) rfl ⟨Nat.le_of_ble_eq_true rfl, Nat.le_of_ble_eq_true rfl⟩ (Nat.le_of_ble_eq_true rfl) ⟨Nat.zero_le _, Nat.zero_le _⟩ dX3_mergePart_156 rfl (fun _ => []) (fun _ => rfl) (fun _ M17 => ?_)
        refine g_aload_n hC 0 160 rfl dX3_mergePart_159 rfl rfl ?_
        refine g_bipush hC 162 dX3_mergePart_160 rfl (by decide +kernel) ?_
        refine g_cV hC 165 1 [.int (fI 19)] [] (cn_X3_take l 19 _) rfl rfl tb_MG rfl gw_425 gw_428 gw_64 gw_427 gw_27 (by decide +kernel) rfl ⟨Nat.le_of_ble_eq_true rfl, Nat.le_of_ble_eq_true rfl⟩ (Nat.le_of_ble_eq_true rfl) ⟨Nat.zero_le _, Nat.zero_le _⟩ dX3_mergePart_162 rfl (fun _ => []) (fun _ => rfl) (fun _ M19 => ?_)
        exact g_return hC hr hk dX3_mergePart_165
      · exact wk_X3_mergePart_J96 hC hr hk _ _ _ _ _ _ _
  · refine g_aload_n hC 0 26 rfl dX3_mergePart_25 rfl rfl ?_
    refine g_aload_n hC 0 27 rfl dX3_mergePart_26 rfl rfl ?_
    refine g_getA hC 30 inX3 rfl 1 (by decide) gw_206 rfl tb_MG rfl dX3_mergePart_27 rfl ?_
    refine g_getAN hC 33 inX1 rfl 1 (by decide) gw_173 rfl (tb_D fIsD_97) rfl dX3_mergePart_30 rfl ?_
    refine g_iload hC 5 35 rfl dX3_mergePart_33 rfl ?_
    refine g_iload hC 6 37 rfl dX3_mergePart_35 rfl ?_
    refine g_cV hC 40 3 [.ref (ad 99), .int (fI a5), .int (fI a6)] [] (cn_X3_takeAll l 99 (tb_D_2 fIsD_97) a5 a6 _) rfl rfl tb_MG rfl gw_421 gw_424 gw_64 gw_423 gw_26 (by decide +kernel) rfl ⟨Nat.le_of_ble_eq_true rfl, Nat.le_of_ble_eq_true rfl⟩ (Nat.le_of_ble_eq_true rfl) ⟨Nat.zero_le _, Nat.zero_le _⟩ dX3_mergePart_37 rfl (fun _ => []) (fun _ => rfl) (fun _ M21 => ?_)
    refine g_goto hC 165 dX3_mergePart_40 rfl ?_
    exact g_return hC hr hk dX3_mergePart_165
theorem cn_X3_mergePart (l : Launch) (a1 : Int) (a2 : Int) (a3 : Int) (a4 : Int) (a5 : Int) (a6 : Int) (M : fMem) : fMt l vwCl TB yX3_mergePart cX3_mergePart 7 (none) 2 45 2 (fun ad => [.ref (ad 78), .int (fI a1), .int (fI a2), .int (fI a3), .int (fI a4), .int (fI a5), .int (fI a6)]) M (dn_X3_mergePart a1 a2 a3 a4 a5 a6 M) :=
  fMt.of (by decide +kernel) (fun _ => Nat.le_of_ble_eq_true rfl) (fun p e s m args below meth c D aC ad hC hr hk => wk_X3_mergePart hC hr hk a1 a2 a3 a4 a5 a6 M)
def dn_X3_merge_J142  (r : Int → Int → Int → Int → fMem → fOp) (x148 : Int → Int → Int → Int → fMem → fOp) (a1 a3 a5 a7 a8 a9 a10 a11 a12 : Int) (M : fMem) : fOp :=
  r a7 a8 a9 (a10 + 1) M
set_option maxRecDepth 100000 in
set_option maxHeartbeats 4000000 in
theorem wk_X3_merge_J142 {l : Launch} {p : Program} {e : Env} {s : State} {m : MethodId} {args : Array Value} {below : List Frame} {meth : Method} {c : Code} {D : va_G} {aC : Nat → ClassId} {ad : Nat → Nat} (hC : fCx p s m args c vwCl D aC TB ad (fFr ad TB) goodTs cX3_merge RX3 13) (hr : meth.sig.returnType = none) (hk : meth.locks = false) (a1 a3 a5 a7 a8 a9 a10 a11 a12 : Int)  (r : Int → Int → Int → Int → fMem → fOp) (hrc : ∀ (z7 z8 z9 z10 : Int) (M : fMem), GM l p e s m args below meth c D aC ad 13 3 74 2 46 [(0, .ref (ad 78)), (1, .long (fL a1)), (3, .long (fL a3)), (5, .long (fL a5)), (7, .int (fI z7)), (8, .int (fI z8)), (9, .int (fI z9)), (10, .int (fI z10))] [] M (r z7 z8 z9 z10 M)) (x148 : Int → Int → Int → Int → fMem → fOp) (hx148 : ∀ (y7 y8 y9 y10 : Int) (M : fMem), GM l p e s m args below meth c D aC ad 13 3 74 2 148 [(0, .ref (ad 78)), (1, .long (fL a1)), (3, .long (fL a3)), (5, .long (fL a5)), (7, .int (fI y7)), (8, .int (fI y8)), (9, .int (fI y9)), (10, .int (fI y10))] [] M (x148 y7 y8 y9 y10 M)) (M : fMem) : GM l p e s m args below meth c D aC ad 13 3 74 2 142 [(0, .ref (ad 78)), (1, .long (fL a1)), (3, .long (fL a3)), (5, .long (fL a5)), (7, .int (fI a7)), (8, .int (fI a8)), (9, .int (fI a9)), (10, .int (fI a10)), (11, .int (fI a11)), (12, .int (fI a12))] [] M (dn_X3_merge_J142 r x148 a1 a3 a5 a7 a8 a9 a10 a11 a12 M) := by
  unfold dn_X3_merge_J142
  refine g_iinc hC 7 145 [(10, .int (fI (a10 + 1))), (0, .ref (ad 78)), (1, .long (fL a1)), (3, .long (fL a3)), (5, .long (fL a5)), (7, .int (fI a7)), (8, .int (fI a8)), (9, .int (fI a9)), (11, .int (fI a11)), (12, .int (fI a12))] rfl dX3_merge_142 (by decide) rfl rfl ?_
  refine g_goto hC 46 dX3_merge_145 rfl ?_
  refine g_lv [1, 2, 3, 4, 5, 6, 7, 0] rfl ?_
  exact hrc _ _ _ _ _
def dn_X3_merge_L46B  (a1 a3 a5 : Int) (r : Int → Int → Int → Int → fMem → fOp) (x148 : Int → Int → Int → Int → fMem → fOp) (a7 a8 a9 a10 : Int) (M : fMem) : fOp :=
  fGt M 79 2 (fun x8 => fLe x8 a10 (x148 a7 a8 a9 a10 M) (fRd M 96 12 a10 (fun x9 => fRd M 114 12 a10 (fun x10 => fEq x9 (-1) (dn_X3_merge_J142 r x148 a1 a3 a5 a7 a8 a9 a10 x9 x10 M) (fEq x10 (-1) (dn_X3_merge_J142 r x148 a1 a3 a5 a7 a8 a9 a10 x9 x10 M) (fCl (dn_X3_mergePart a7 a10 a8 x9 a9 x10 M) (fun _ M12 => fRd M12 80 12 a10 (fun x13 => fCl (dn_X3_take x13 M12) (fun _ M15 => dn_X3_merge_J142 r x148 a1 a3 a5 (a10 + 1) (x9 + 1) (x10 + 1) a10 x9 x10 M15)))))))))
def dn_X3_merge_L46  (a1 a3 a5 : Int) (x148 : Int → Int → Int → Int → fMem → fOp) : Nat → Int → Int → Int → Int → fMem → fOp
  | 0, _, _, _, _, _ => none
  | n + 1, a7, a8, a9, a10, M => dn_X3_merge_L46B a1 a3 a5 (fun a7 a8 a9 a10 M => dn_X3_merge_L46 a1 a3 a5 x148 n a7 a8 a9 a10 M) x148 a7 a8 a9 a10 M
set_option maxRecDepth 100000 in
set_option maxHeartbeats 4000000 in
theorem wk_X3_merge_L46B {l : Launch} {p : Program} {e : Env} {s : State} {m : MethodId} {args : Array Value} {below : List Frame} {meth : Method} {c : Code} {D : va_G} {aC : Nat → ClassId} {ad : Nat → Nat} (hC : fCx p s m args c vwCl D aC TB ad (fFr ad TB) goodTs cX3_merge RX3 13) (hr : meth.sig.returnType = none) (hk : meth.locks = false) (a1 a3 a5 : Int) (r : Int → Int → Int → Int → fMem → fOp) (hrc : ∀ (a7 a8 a9 a10 : Int) (M : fMem), GM l p e s m args below meth c D aC ad 13 3 74 2 46 [(0, .ref (ad 78)), (1, .long (fL a1)), (3, .long (fL a3)), (5, .long (fL a5)), (7, .int (fI a7)), (8, .int (fI a8)), (9, .int (fI a9)), (10, .int (fI a10))] [] M (r a7 a8 a9 a10 M)) (x148 : Int → Int → Int → Int → fMem → fOp) (hx148 : ∀ (y7 y8 y9 y10 : Int) (M : fMem), GM l p e s m args below meth c D aC ad 13 3 74 2 148 [(0, .ref (ad 78)), (1, .long (fL a1)), (3, .long (fL a3)), (5, .long (fL a5)), (7, .int (fI y7)), (8, .int (fI y8)), (9, .int (fI y9)), (10, .int (fI y10))] [] M (x148 y7 y8 y9 y10 M)) (a7 a8 a9 a10 : Int) (M : fMem) : GM l p e s m args below meth c D aC ad 13 3 74 2 46 [(0, .ref (ad 78)), (1, .long (fL a1)), (3, .long (fL a3)), (5, .long (fL a5)), (7, .int (fI a7)), (8, .int (fI a8)), (9, .int (fI a9)), (10, .int (fI a10))] [] M (dn_X3_merge_L46B a1 a3 a5 r x148 a7 a8 a9 a10 M) := by
  unfold dn_X3_merge_L46B
  refine g_iload hC 7 48 rfl dX3_merge_46 rfl ?_
  refine g_aload_n hC 0 49 rfl dX3_merge_48 rfl rfl ?_
  refine g_getA hC 52 inX3 rfl 0 (by decide) gw_205 rfl tb_MG rfl dX3_merge_49 rfl ?_
  refine g_getIN hC 55 inX1 rfl 2 (by decide) gw_175 rfl (tb_D fIsD_79) rfl dX3_merge_52 rfl (fun x8 => ?_)
  refine g_icmp_ge hC 148 58 dX3_merge_55 rfl rfl ?_ ?_
  · exact hx148 _ _ _ _ _
  · refine g_aload_n hC 0 59 rfl dX3_merge_58 rfl rfl ?_
    refine g_getA hC 62 inX3 rfl 0 (by decide) gw_205 rfl tb_MG rfl dX3_merge_59 rfl ?_
    refine g_getAN hC 65 inX1 rfl 5 (by decide) gw_180 rfl (tb_D fIsD_79) rfl dX3_merge_62 rfl ?_
    refine g_iload hC 7 67 rfl dX3_merge_65 rfl ?_
    refine g_iald hC 68 (tb_D_17 fIsD_79) (by decide) dX3_merge_67 rfl (fun x9 => ?_)
    refine g_istore hC 70 [(11, .int (fI x9)), (0, .ref (ad 78)), (1, .long (fL a1)), (3, .long (fL a3)), (5, .long (fL a5)), (7, .int (fI a7)), (8, .int (fI a8)), (9, .int (fI a9)), (10, .int (fI a10))] dX3_merge_68 (by decide) rfl rfl ?_
    refine g_aload_n hC 1 71 rfl dX3_merge_70 rfl rfl ?_
    refine g_getA hC 74 inX3 rfl 1 (by decide) gw_206 rfl tb_MG rfl dX3_merge_71 rfl ?_
    refine g_getAN hC 77 inX1 rfl 5 (by decide) gw_180 rfl (tb_D fIsD_97) rfl dX3_merge_74 rfl ?_
    refine g_iload hC 8 79 rfl dX3_merge_77 rfl ?_
    refine g_iald hC 80 (tb_D_17 fIsD_97) (by decide) dX3_merge_79 rfl (fun x10 => ?_)
    refine g_istore hC 82 [(12, .int (fI x10)), (11, .int (fI x9)), (0, .ref (ad 78)), (1, .long (fL a1)), (3, .long (fL a3)), (5, .long (fL a5)), (7, .int (fI a7)), (8, .int (fI a8)), (9, .int (fI a9)), (10, .int (fI a10))] dX3_merge_80 (by decide) rfl rfl ?_
    refine g_iload hC 1 84 rfl dX3_merge_82 rfl ?_
    refine g_iconst hC 85 dX3_merge_84 rfl ?_
    refine g_icmp_eq hC 142 88 dX3_merge_85 rfl rfl ?_ ?_
    · refine g_lv [2, 3, 4, 5, 6, 7, 8, 9, 1, 0] rfl ?_
      exact wk_X3_merge_J142 hC hr hk _ _ _ _ _ _ _ _ _ _ hrc _ hx148 _
    · refine g_iload hC 0 90 rfl dX3_merge_88 rfl ?_
      refine g_iconst hC 91 dX3_merge_90 rfl ?_
      refine g_icmp_eq hC 142 94 dX3_merge_91 rfl rfl ?_ ?_
      · refine g_lv [2, 3, 4, 5, 6, 7, 8, 9, 1, 0] rfl ?_
        exact wk_X3_merge_J142 hC hr hk _ _ _ _ _ _ _ _ _ _ hrc _ hx148 _
      · refine g_aload_n hC 2 95 rfl dX3_merge_94 rfl rfl ?_
        refine g_iload hC 6 97 rfl dX3_merge_95 rfl ?_
        refine g_iload hC 9 99 rfl dX3_merge_97 rfl ?_
        refine g_iload hC 7 101 rfl dX3_merge_99 rfl ?_
        refine g_iload hC 1 103 rfl dX3_merge_101 rfl ?_
        refine g_iload hC 8 105 rfl dX3_merge_103 rfl ?_
        refine g_iload hC 0 107 rfl dX3_merge_105 rfl ?_
        refine g_cV hC 110 6 [.int (fI a7), .int (fI a10), .int (fI a8), .int (fI x9), .int (fI a9), .int (fI x10)] [] (cn_X3_mergePart l a7 a10 a8 x9 a9 x10 _) rfl rfl tb_MG rfl gw_414 gw_417 gw_64 gw_416 gw_25 (by decide +kernel) rfl ⟨Nat.le_of_ble_eq_true rfl, Nat.le_of_ble_eq_true rfl⟩ (Nat.le_of_ble_eq_true rfl) ⟨Nat.zero_le _, Nat.zero_le _⟩ dX3_merge_107 rfl (fun _ => []) (fun _ => rfl) (fun _ M12 => ?_)
        refine g_aload_n hC 2 111 rfl dX3_merge_110 rfl rfl ?_
        refine g_aload_n hC 2 112 rfl dX3_merge_111 rfl rfl ?_
        refine g_getA hC 115 inX3 rfl 0 (by decide) gw_205 rfl tb_MG rfl dX3_merge_112 rfl ?_
        refine g_getAN hC 118 inX1 rfl 0 (by decide) gw_171 rfl (tb_D fIsD_79) rfl dX3_merge_115 rfl ?_
        refine g_iload hC 9 120 rfl dX3_merge_118 rfl ?_
        refine g_iald hC 121 (tb_D_1 fIsD_79) (by decide) dX3_merge_120 rfl (fun x13 => ?_)
        refine g_cV hC 124 1 [.int (fI x13)] [] (cn_X3_take l x13 _) rfl rfl tb_MG rfl gw_425 gw_428 gw_64 gw_427 gw_27 (by decide +kernel) rfl ⟨Nat.le_of_ble_eq_true rfl, Nat.le_of_ble_eq_true rfl⟩ (Nat.le_of_ble_eq_true rfl) ⟨Nat.zero_le _, Nat.zero_le _⟩ dX3_merge_121 rfl (fun _ => []) (fun _ => rfl) (fun _ M15 => ?_)
        refine g_iload hC 9 126 rfl dX3_merge_124 rfl ?_
        refine g_iconst hC 127 dX3_merge_126 rfl ?_
        refine g_iadd hC 128 dX3_merge_127 rfl ?_
        refine g_istore hC 130 [(7, .int (fI (a10 + 1))), (12, .int (fI x10)), (11, .int (fI x9)), (0, .ref (ad 78)), (1, .long (fL a1)), (3, .long (fL a3)), (5, .long (fL a5)), (8, .int (fI a8)), (9, .int (fI a9)), (10, .int (fI a10))] dX3_merge_128 (by decide) rfl rfl ?_
        refine g_iload hC 2 132 rfl dX3_merge_130 rfl ?_
        refine g_iconst hC 133 dX3_merge_132 rfl ?_
        refine g_iadd hC 134 dX3_merge_133 rfl ?_
        refine g_istore hC 136 [(8, .int (fI (x9 + 1))), (7, .int (fI (a10 + 1))), (12, .int (fI x10)), (11, .int (fI x9)), (0, .ref (ad 78)), (1, .long (fL a1)), (3, .long (fL a3)), (5, .long (fL a5)), (9, .int (fI a9)), (10, .int (fI a10))] dX3_merge_134 (by decide) rfl rfl ?_
        refine g_iload hC 2 138 rfl dX3_merge_136 rfl ?_
        refine g_iconst hC 139 dX3_merge_138 rfl ?_
        refine g_iadd hC 140 dX3_merge_139 rfl ?_
        refine g_istore hC 142 [(9, .int (fI (x10 + 1))), (8, .int (fI (x9 + 1))), (7, .int (fI (a10 + 1))), (12, .int (fI x10)), (11, .int (fI x9)), (0, .ref (ad 78)), (1, .long (fL a1)), (3, .long (fL a3)), (5, .long (fL a5)), (10, .int (fI a10))] dX3_merge_140 (by decide) rfl rfl ?_
        refine g_lv [5, 6, 7, 8, 2, 1, 0, 9, 4, 3] rfl ?_
        exact wk_X3_merge_J142 hC hr hk _ _ _ _ _ _ _ _ _ _ hrc _ hx148 _
set_option maxRecDepth 100000 in
set_option maxHeartbeats 4000000 in
theorem wk_X3_merge_L46 {l : Launch} {p : Program} {e : Env} {s : State} {m : MethodId} {args : Array Value} {below : List Frame} {meth : Method} {c : Code} {D : va_G} {aC : Nat → ClassId} {ad : Nat → Nat} (hC : fCx p s m args c vwCl D aC TB ad (fFr ad TB) goodTs cX3_merge RX3 13) (hr : meth.sig.returnType = none) (hk : meth.locks = false) (a1 a3 a5 : Int) (x148 : Int → Int → Int → Int → fMem → fOp) (hx148 : ∀ (y7 y8 y9 y10 : Int) (M : fMem), GM l p e s m args below meth c D aC ad 13 3 74 2 148 [(0, .ref (ad 78)), (1, .long (fL a1)), (3, .long (fL a3)), (5, .long (fL a5)), (7, .int (fI y7)), (8, .int (fI y8)), (9, .int (fI y9)), (10, .int (fI y10))] [] M (x148 y7 y8 y9 y10 M)) (n : Nat) : ∀ (a7 a8 a9 a10 : Int) (M : fMem), GM l p e s m args below meth c D aC ad 13 3 74 2 46 [(0, .ref (ad 78)), (1, .long (fL a1)), (3, .long (fL a3)), (5, .long (fL a5)), (7, .int (fI a7)), (8, .int (fI a8)), (9, .int (fI a9)), (10, .int (fI a10))] [] M (dn_X3_merge_L46 a1 a3 a5 x148 n a7 a8 a9 a10 M) := by
  induction n with
  | zero => intro a7 a8 a9 a10 M; exact g_none
  | succ n ih => intro a7 a8 a9 a10 M; exact wk_X3_merge_L46B hC hr hk a1 a3 a5 (fun a7 a8 a9 a10 M => dn_X3_merge_L46 a1 a3 a5 x148 n a7 a8 a9 a10 M) ih x148 hx148 a7 a8 a9 a10 M
def dn_X3_merge (a1 : Int) (a3 : Int) (a5 : Int) (M : fMem) : fOp :=
  fCl (dn_X1_compare 79 a1 a3 M) (fun _ M2 => fCl (dn_X1_compare 97 a1 a5 M2) (fun _ M4 => fPt M4 78 2 0 (fun M5 => fPt M5 78 3 0 (fun M6 => fPz M6 78 4 0 (fun M7 => dn_X3_merge_L46 a1 a3 a5 (fun y16 y17 y18 y19 M20 => fGt M20 79 2 (fun x21 => fGt M20 79 3 (fun x22 => fGt M20 97 3 (fun x23 => fCl (dn_X3_mergePart y16 x21 y17 x22 y18 x23 M20) (fun _ M25 => some (0, M25)))))) 600 0 0 0 0 M7)))))
set_option maxRecDepth 100000 in
set_option maxHeartbeats 4000000 in
theorem wk_X3_merge {l : Launch} {p : Program} {e : Env} {s : State} {m : MethodId} {args : Array Value} {below : List Frame} {meth : Method} {c : Code} {D : va_G} {aC : Nat → ClassId} {ad : Nat → Nat} (hC : fCx p s m args c vwCl D aC TB ad (fFr ad TB) goodTs cX3_merge RX3 13) (hr : meth.sig.returnType = none) (hk : meth.locks = false) (a1 : Int) (a3 : Int) (a5 : Int) (M : fMem) : GM l p e s m args below meth c D aC ad 13 3 74 2 0 [(0, .ref (ad 78)), (1, .long (fL a1)), (3, .long (fL a3)), (5, .long (fL a5))] [] M (dn_X3_merge a1 a3 a5 M) := by
  unfold dn_X3_merge
  refine g_aload_n hC 0 1 rfl dX3_merge_0 rfl rfl ?_
  refine g_getA hC 4 inX3 rfl 0 (by decide) gw_205 rfl tb_MG rfl dX3_merge_1 rfl ?_
  refine g_lload_n hC 1 5 rfl dX3_merge_4 rfl rfl ?_
  refine g_lload_n hC 2 6 rfl dX3_merge_5 rfl rfl ?_
  refine g_cVN hC 9 2 [.long (fL a1), .long (fL a3)] [] (cn_X1_compare l 79 fIsD_79 a1 a3 _) rfl rfl (tb_D fIsD_79) rfl gw_392 gw_395 gw_63 gw_394 gw_22 (by decide +kernel) rfl ⟨Nat.le_of_ble_eq_true rfl, Nat.le_of_ble_eq_true rfl⟩ (Nat.le_of_ble_eq_true rfl) ⟨Nat.zero_le _, Nat.zero_le _⟩ dX3_merge_6 rfl (fun _ => []) (fun _ => rfl) (fun _ M2 => ?_)
  refine g_aload_n hC 0 10 rfl dX3_merge_9 rfl rfl ?_
  refine g_getA hC 13 inX3 rfl 1 (by decide) gw_206 rfl tb_MG rfl dX3_merge_10 rfl ?_
  refine g_lload_n hC 1 14 rfl dX3_merge_13 rfl rfl ?_
  refine g_lload hC 3 16 rfl dX3_merge_14 rfl ?_
  refine g_cVN hC 19 2 [.long (fL a1), .long (fL a5)] [] (cn_X1_compare l 97 fIsD_97 a1 a5 _) rfl rfl (tb_D fIsD_97) rfl gw_392 gw_395 gw_63 gw_394 gw_22 (by decide +kernel) rfl ⟨Nat.le_of_ble_eq_true rfl, Nat.le_of_ble_eq_true rfl⟩ (Nat.le_of_ble_eq_true rfl) ⟨Nat.zero_le _, Nat.zero_le _⟩ dX3_merge_16 rfl (fun _ => []) (fun _ => rfl) (fun _ M4 => ?_)
  refine g_aload_n hC 0 20 rfl dX3_merge_19 rfl rfl ?_
  refine g_lconst hC 0 21 dX3_merge_20 rfl (by decide +kernel) ?_
  refine g_putJ hC 24 tyX3 tyX3_ok nmX3 inX3 rfl 2 (by decide) gw_207 rfl rfl (by decide +kernel) tb_MG rfl dX3_merge_21 rfl (fun M5 => ?_)
  refine g_aload_n hC 0 25 rfl dX3_merge_24 rfl rfl ?_
  refine g_iconst hC 26 dX3_merge_25 rfl ?_
  refine g_putI hC 29 tyX3 tyX3_ok nmX3 inX3 rfl 3 (by decide) gw_209 rfl rfl (by decide +kernel) tb_MG rfl dX3_merge_26 rfl (fun M6 => ?_)
  refine g_aload_n hC 0 30 rfl dX3_merge_29 rfl rfl ?_
  refine g_iconst hC 31 dX3_merge_30 rfl ?_
  refine g_putZ hC 34 tyX3 tyX3_ok nmX3 inX3 rfl 4 (by decide) gw_210 rfl rfl (by decide +kernel) tb_MG rfl dX3_merge_31 rfl (fun M7 => ?_)
  refine g_iconst hC 35 dX3_merge_34 rfl ?_
  refine g_istore hC 37 [(7, .int (fI 0)), (0, .ref (ad 78)), (1, .long (fL a1)), (3, .long (fL a3)), (5, .long (fL a5))] dX3_merge_35 (by decide) rfl rfl ?_
  refine g_iconst hC 38 dX3_merge_37 rfl ?_
  refine g_istore hC 40 [(8, .int (fI 0)), (7, .int (fI 0)), (0, .ref (ad 78)), (1, .long (fL a1)), (3, .long (fL a3)), (5, .long (fL a5))] dX3_merge_38 (by decide) rfl rfl ?_
  refine g_iconst hC 41 dX3_merge_40 rfl ?_
  refine g_istore hC 43 [(9, .int (fI 0)), (8, .int (fI 0)), (7, .int (fI 0)), (0, .ref (ad 78)), (1, .long (fL a1)), (3, .long (fL a3)), (5, .long (fL a5))] dX3_merge_41 (by decide) rfl rfl ?_
  refine g_iconst hC 44 dX3_merge_43 rfl ?_
  refine g_istore hC 46 [(10, .int (fI 0)), (9, .int (fI 0)), (8, .int (fI 0)), (7, .int (fI 0)), (0, .ref (ad 78)), (1, .long (fL a1)), (3, .long (fL a3)), (5, .long (fL a5))] dX3_merge_44 (by decide) rfl rfl ?_
  refine g_lv [4, 5, 6, 7, 3, 2, 1, 0] rfl ?_
  refine wk_X3_merge_L46 hC hr hk _ _ _ _ (fun y16 y17 y18 y19 M20 => ?_) 600 _ _ _ _ _
  · refine g_aload_n hC 0 149 rfl dX3_merge_148 rfl rfl ?_
    refine g_iload hC 4 151 rfl dX3_merge_149 rfl ?_
    refine g_aload_n hC 0 152 rfl dX3_merge_151 rfl rfl ?_
    refine g_getA hC 155 inX3 rfl 0 (by decide) gw_205 rfl tb_MG rfl dX3_merge_152 rfl ?_
    refine g_getIN hC 158 inX1 rfl 2 (by decide) gw_175 rfl (tb_D fIsD_79) rfl dX3_merge_155 rfl (fun x21 => ?_)
    refine g_iload hC 5 160 rfl dX3_merge_158 rfl ?_
    refine g_aload_n hC 0 161 rfl dX3_merge_160 rfl rfl ?_
    refine g_getA hC 164 inX3 rfl 0 (by decide) gw_205 rfl tb_MG rfl dX3_merge_161 rfl ?_
    refine g_getIN hC 167 inX1 rfl 3 (by decide) gw_177 rfl (tb_D fIsD_79) rfl dX3_merge_164 rfl (fun x22 => ?_)
    refine g_iload hC 6 169 rfl dX3_merge_167 rfl ?_
    refine g_aload_n hC 0 170 rfl dX3_merge_169 rfl rfl ?_
    refine g_getA hC 173 inX3 rfl 1 (by decide) gw_206 rfl tb_MG rfl dX3_merge_170 rfl ?_
    refine g_getIN hC 176 inX1 rfl 3 (by decide) gw_177 rfl (tb_D fIsD_97) rfl dX3_merge_173 rfl (fun x23 => ?_)
    refine g_cV hC 179 6 [.int (fI y16), .int (fI x21), .int (fI y17), .int (fI x22), .int (fI y18), .int (fI x23)] [] (cn_X3_mergePart l y16 x21 y17 x22 y18 x23 _) rfl rfl tb_MG rfl gw_414 gw_417 gw_64 gw_416 gw_25 (by decide +kernel) rfl ⟨Nat.le_of_ble_eq_true rfl, Nat.le_of_ble_eq_true rfl⟩ (Nat.le_of_ble_eq_true rfl) ⟨Nat.zero_le _, Nat.zero_le _⟩ dX3_merge_176 rfl (fun _ => []) (fun _ => rfl) (fun _ M25 => ?_)
    exact g_return hC hr hk dX3_merge_179
theorem cn_X3_merge (l : Launch) (a1 : Int) (a3 : Int) (a5 : Int) (M : fMem) : fMt l vwCl TB yX3_merge cX3_merge 13 (none) 3 74 2 (fun ad => [.ref (ad 78), .long (fL a1), .long (fL a3), .long (fL a5)]) M (dn_X3_merge a1 a3 a5 M) :=
  fMt.of (by decide +kernel) (fun _ => Nat.le_of_ble_eq_true rfl) (fun p e s m args below meth c D aC ad hC hr hk => wk_X3_merge hC hr hk a1 a3 a5 M)
def dn_X3_isTooLong (M : fMem) : fOp :=
  fGt M 78 3 (fun x1 => fLe x1 12 (fRz 0 M) (fRz 1 M))
set_option maxRecDepth 100000 in
set_option maxHeartbeats 4000000 in
theorem wk_X3_isTooLong {l : Launch} {p : Program} {e : Env} {s : State} {m : MethodId} {args : Array Value} {below : List Frame} {meth : Method} {c : Code} {D : va_G} {aC : Nat → ClassId} {ad : Nat → Nat} (hC : fCx p s m args c vwCl D aC TB ad (fFr ad TB) goodTs cX3_isTooLong RX3 1) (hr : meth.sig.returnType = some .boolean) (hk : meth.locks = false) (M : fMem) : GM l p e s m args below meth c D aC ad 1 0 0 0 0 [(0, .ref (ad 78))] [] M (dn_X3_isTooLong M) := by
  unfold dn_X3_isTooLong
  refine g_aload_n hC 0 1 rfl dX3_isTooLong_0 rfl rfl ?_
  refine g_getI hC 4 inX3 rfl 3 (by decide) gw_209 rfl tb_MG rfl dX3_isTooLong_1 rfl (fun x1 => ?_)
  refine g_bipush hC 6 dX3_isTooLong_4 rfl (by decide +kernel) ?_
  refine g_icmp_le hC 13 9 dX3_isTooLong_6 rfl rfl ?_ ?_
  · refine g_iconst hC 14 dX3_isTooLong_13 rfl ?_
    exact g_zreturn hC hr hk dX3_isTooLong_14
  · refine g_iconst hC 10 dX3_isTooLong_9 rfl ?_
    refine g_goto hC 14 dX3_isTooLong_10 rfl ?_
    exact g_zreturn hC hr hk dX3_isTooLong_14
theorem cn_X3_isTooLong (l : Launch) (M : fMem) : fMt l vwCl TB yX3_isTooLong cX3_isTooLong 1 (some .boolean) 0 0 0 (fun ad => [.ref (ad 78)]) M (dn_X3_isTooLong M) :=
  fMt.of (by decide +kernel) (fun _ => Nat.le_of_ble_eq_true rfl) (fun p e s m args below meth c D aC ad hC hr hk => wk_X3_isTooLong hC hr hk M)
