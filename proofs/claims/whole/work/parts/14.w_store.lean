def dn_X5_isClient (a0 : Int) (M : fMem) : fOp :=
  fLt a0 0 (fRz 0 M) (fLe 3 a0 (fRz 0 M) (fRz 1 M))
set_option maxRecDepth 100000 in
set_option maxHeartbeats 4000000 in
theorem wk_X5_isClient {l : Launch} {p : Program} {e : Env} {s : State} {m : MethodId} {args : Array Value} {below : List Frame} {meth : Method} {c : Code} {D : va_G} {aC : Nat → ClassId} {ad : Nat → Nat} (hC : fCx p s m args c vwCl D aC TB ad (fFr ad TB) goodTs cX5_isClient RX5 1) (hr : meth.sig.returnType = some .boolean) (hk : meth.locks = false) (a0 : Int) (M : fMem) : GM l p e s m args below meth c D aC ad 1 0 0 0 0 [(0, .int (fI a0))] [] M (dn_X5_isClient a0 M) := by
  unfold dn_X5_isClient
  refine g_iload_n hC 0 1 rfl dX5_isClient_0 rfl rfl ?_
  refine g_if_lt hC 13 4 dX5_isClient_1 rfl rfl ?_ ?_
  · refine g_iconst hC 14 dX5_isClient_13 rfl ?_
    exact g_zreturn hC hr hk dX5_isClient_14
  · refine g_iload_n hC 0 5 rfl dX5_isClient_4 rfl rfl ?_
    refine g_iconst hC 6 dX5_isClient_5 rfl ?_
    refine g_icmp_ge hC 13 9 dX5_isClient_6 rfl rfl ?_ ?_
    · refine g_iconst hC 14 dX5_isClient_13 rfl ?_
      exact g_zreturn hC hr hk dX5_isClient_14
    · refine g_iconst hC 10 dX5_isClient_9 rfl ?_
      refine g_goto hC 14 dX5_isClient_10 rfl ?_
      exact g_zreturn hC hr hk dX5_isClient_14
theorem cn_X5_isClient (l : Launch) (a0 : Int) (M : fMem) : fMt l vwCl TB yX5_isClient cX5_isClient 1 (some .boolean) 0 0 0 (fun ad => [.int (fI a0)]) M (dn_X5_isClient a0 M) :=
  fMt.of (by decide +kernel) (fun _ => Nat.le_of_ble_eq_true rfl) (fun p e s m args below meth c D aC ad hC hr hk => wk_X5_isClient hC hr hk a0 M)
def dn_X5_isFile (a0 : Int) (M : fMem) : fOp :=
  fLt a0 0 (fRz 0 M) (fLe 4 a0 (fRz 0 M) (fRz 1 M))
set_option maxRecDepth 100000 in
set_option maxHeartbeats 4000000 in
theorem wk_X5_isFile {l : Launch} {p : Program} {e : Env} {s : State} {m : MethodId} {args : Array Value} {below : List Frame} {meth : Method} {c : Code} {D : va_G} {aC : Nat → ClassId} {ad : Nat → Nat} (hC : fCx p s m args c vwCl D aC TB ad (fFr ad TB) goodTs cX5_isFile RX5 1) (hr : meth.sig.returnType = some .boolean) (hk : meth.locks = false) (a0 : Int) (M : fMem) : GM l p e s m args below meth c D aC ad 1 0 0 0 0 [(0, .int (fI a0))] [] M (dn_X5_isFile a0 M) := by
  unfold dn_X5_isFile
  refine g_iload_n hC 0 1 rfl dX5_isFile_0 rfl rfl ?_
  refine g_if_lt hC 13 4 dX5_isFile_1 rfl rfl ?_ ?_
  · refine g_iconst hC 14 dX5_isFile_13 rfl ?_
    exact g_zreturn hC hr hk dX5_isFile_14
  · refine g_iload_n hC 0 5 rfl dX5_isFile_4 rfl rfl ?_
    refine g_iconst hC 6 dX5_isFile_5 rfl ?_
    refine g_icmp_ge hC 13 9 dX5_isFile_6 rfl rfl ?_ ?_
    · refine g_iconst hC 14 dX5_isFile_13 rfl ?_
      exact g_zreturn hC hr hk dX5_isFile_14
    · refine g_iconst hC 10 dX5_isFile_9 rfl ?_
      refine g_goto hC 14 dX5_isFile_10 rfl ?_
      exact g_zreturn hC hr hk dX5_isFile_14
theorem cn_X5_isFile (l : Launch) (a0 : Int) (M : fMem) : fMt l vwCl TB yX5_isFile cX5_isFile 1 (some .boolean) 0 0 0 (fun ad => [.int (fI a0)]) M (dn_X5_isFile a0 M) :=
  fMt.of (by decide +kernel) (fun _ => Nat.le_of_ble_eq_true rfl) (fun p e s m args below meth c D aC ad hC hr hk => wk_X5_isFile hC hr hk a0 M)
def dn_X5_copyOf (a1 : Int) (a2 : Int) (M : fMem) : fOp :=
  fIx 12 47 1 ((a1 * 4) + a2) (fun P1 => some ((P1 : Int), M))
set_option maxRecDepth 100000 in
set_option maxHeartbeats 4000000 in
theorem wk_X5_copyOf {l : Launch} {p : Program} {e : Env} {s : State} {m : MethodId} {args : Array Value} {below : List Frame} {meth : Method} {c : Code} {D : va_G} {aC : Nat → ClassId} {ad : Nat → Nat} (hC : fCx p s m args c vwCl D aC TB ad (fFr ad TB) goodTs cX5_copyOf RX5 3) (hr : meth.sig.returnType = some (.object "RevisionStore$Copy")) (hk : meth.locks = false) (a1 : Int) (a2 : Int) (M : fMem) : GM l p e s m args below meth c D aC ad 3 0 0 3 0 [(0, .ref (ad 0)), (1, .int (fI a1)), (2, .int (fI a2))] [] M (dn_X5_copyOf a1 a2 M) := by
  unfold dn_X5_copyOf
  refine g_aload_n hC 0 1 rfl dX5_copyOf_0 rfl rfl ?_
  refine g_getA hC 4 inX5 rfl 1 (by decide) gw_224 rfl tb_RS rfl dX5_copyOf_1 rfl ?_
  refine g_iload_n hC 1 5 rfl dX5_copyOf_4 rfl rfl ?_
  refine g_iconst hC 6 dX5_copyOf_5 rfl ?_
  refine g_imul hC 7 dX5_copyOf_6 rfl ?_
  refine g_iload_n hC 2 8 rfl dX5_copyOf_7 rfl rfl ?_
  refine g_iadd hC 9 dX5_copyOf_8 rfl ?_
  refine g_aald hC 12 47 1 10 tb_CA rfl tb_CA_q rfl (by decide) dX5_copyOf_9 rfl (fun P1 hP1 => ?_)
  replace hP1 := fIsC_of hP1
  exact g_areturn hC hr hk dX5_copyOf_10
theorem cn_X5_copyOf (l : Launch) (a1 : Int) (a2 : Int) (M : fMem) : fMt l vwCl TB yX5_copyOf cX5_copyOf 3 (some (.object "RevisionStore$Copy")) 0 0 3 (fun ad => [.ref (ad 0), .int (fI a1), .int (fI a2)]) M (dn_X5_copyOf a1 a2 M) :=
  fMt.of (by decide +kernel) (fun _ => Nat.le_of_ble_eq_true rfl) (fun p e s m args below meth c D aC ad hC hr hk => wk_X5_copyOf hC hr hk a1 a2 M)
def dn_X5_add (a1 : Int) (a2 : Int) (a3 : Int) (M : fMem) : fOp :=
  fCl (dn_X5_isClient a1 M) (fun v1 M2 => fEq v1 0 (fRz 0 M2) (fCl (dn_X5_isFile a2 M2) (fun v3 M4 => fEq v3 0 (fRz 0 M4) (fCl (dn_X5_copyOf a1 a2 M4) (fun v5 M6 => fCk v5 (fun P7 => fCl (dn_X0_hasEntry P7 M6) (fun v8 M9 => fEq v8 0 (fCl (dn_X4_isClean a3 M9) (fun v10 M11 => fEq v10 0 (fRz 0 M11) (fCl (dn_X0_hold P7 (-2) a3 M11) (fun _ M13 => fRz 1 M13)))) (fRz 0 M9))))))))
set_option maxRecDepth 100000 in
set_option maxHeartbeats 4000000 in
theorem wk_X5_add {l : Launch} {p : Program} {e : Env} {s : State} {m : MethodId} {args : Array Value} {below : List Frame} {meth : Method} {c : Code} {D : va_G} {aC : Nat → ClassId} {ad : Nat → Nat} (hC : fCx p s m args c vwCl D aC TB ad (fFr ad TB) goodTs cX5_add RX5 6) (hr : meth.sig.returnType = some .boolean) (hk : meth.locks = false) (a1 : Int) (a2 : Int) (a3 : Int) (M : fMem) : GM l p e s m args below meth c D aC ad 6 2 47 0 0 [(0, .ref (ad 0)), (1, .int (fI a1)), (2, .int (fI a2)), (3, .long (fL a3))] [] M (dn_X5_add a1 a2 a3 M) := by
  unfold dn_X5_add
  refine g_iload_n hC 1 1 rfl dX5_add_0 rfl rfl ?_
  refine g_cS hC 4 1 [.int (fI a1)] [] (cn_X5_isClient l a1 _) rfl rfl gw_243 gw_245 gw_59 gw_244 (by decide +kernel) rfl ⟨Nat.le_of_ble_eq_true rfl, Nat.le_of_ble_eq_true rfl⟩ (Nat.le_of_ble_eq_true rfl) ⟨Nat.zero_le _, Nat.zero_le _⟩ dX5_add_1 rfl (fun v1 => .int (fI v1) :: []) (fun _ => rfl) (fun v1 M2 => ?_)
  refine g_if_eq hC 14 7 dX5_add_4 rfl rfl ?_ ?_
  · refine g_iconst hC 15 dX5_add_14 rfl ?_
    exact g_zreturn hC hr hk dX5_add_15
  · refine g_iload_n hC 2 8 rfl dX5_add_7 rfl rfl ?_
    refine g_cS hC 11 1 [.int (fI a2)] [] (cn_X5_isFile l a2 _) rfl rfl gw_246 gw_248 gw_59 gw_247 (by decide +kernel) rfl ⟨Nat.le_of_ble_eq_true rfl, Nat.le_of_ble_eq_true rfl⟩ (Nat.le_of_ble_eq_true rfl) ⟨Nat.zero_le _, Nat.zero_le _⟩ dX5_add_8 rfl (fun v3 => .int (fI v3) :: []) (fun _ => rfl) (fun v3 M4 => ?_)
    refine g_if_ne hC 16 14 dX5_add_11 rfl rfl ?_ ?_
    · refine g_aload_n hC 0 17 rfl dX5_add_16 rfl rfl ?_
      refine g_iload_n hC 1 18 rfl dX5_add_17 rfl rfl ?_
      refine g_iload_n hC 2 19 rfl dX5_add_18 rfl rfl ?_
      refine g_cV hC 22 2 [.int (fI a1), .int (fI a2)] [] (cn_X5_copyOf l a1 a2 _) rfl rfl tb_RS rfl gw_249 gw_252 gw_59 gw_251 gw_0 (by decide +kernel) rfl ⟨Nat.le_of_ble_eq_true rfl, Nat.le_of_ble_eq_true rfl⟩ (Nat.le_of_ble_eq_true rfl) ⟨Nat.zero_le _, Nat.zero_le _⟩ dX5_add_19 rfl (fun v5 => .ref (ad v5.toNat) :: []) (fun _ => rfl) (fun v5 M6 => ?_)
      refine g_ck (fun P7 hP7 => ?_)
      refine g_astore hC 24 [(5, .ref (ad P7)), (0, .ref (ad 0)), (1, .int (fI a1)), (2, .int (fI a2)), (3, .long (fL a3))] dX5_add_22 (by decide) rfl rfl ?_
      refine g_aload hC 0 26 rfl dX5_add_24 rfl ?_
      refine g_cVN hC 29 0 [] [] (cn_X0_hasEntry l P7 hP7 _) rfl rfl (tb_C hP7) rfl gw_253 gw_256 gw_62 gw_255 gw_1 (by decide +kernel) rfl ⟨Nat.le_of_ble_eq_true rfl, Nat.le_of_ble_eq_true rfl⟩ (Nat.le_of_ble_eq_true rfl) ⟨Nat.zero_le _, Nat.zero_le _⟩ dX5_add_26 rfl (fun v8 => .int (fI v8) :: []) (fun _ => rfl) (fun v8 M9 => ?_)
      refine g_if_ne hC 39 32 dX5_add_29 rfl rfl ?_ ?_
      · refine g_iconst hC 40 dX5_add_39 rfl ?_
        exact g_zreturn hC hr hk dX5_add_40
      · refine g_lload_n hC 4 33 rfl dX5_add_32 rfl rfl ?_
        refine g_cSN hC 36 1 [.long (fL a3)] [] (cn_X4_isClean l a3 _) rfl rfl gw_257 gw_259 gw_66 gw_258 (by decide +kernel) rfl ⟨Nat.le_of_ble_eq_true rfl, Nat.le_of_ble_eq_true rfl⟩ (Nat.le_of_ble_eq_true rfl) ⟨Nat.zero_le _, Nat.zero_le _⟩ dX5_add_33 rfl (fun v10 => .int (fI v10) :: []) (fun _ => rfl) (fun v10 M11 => ?_)
        refine g_if_ne hC 41 39 dX5_add_36 rfl rfl ?_ ?_
        · refine g_aload hC 0 43 rfl dX5_add_41 rfl ?_
          refine g_bipush hC 45 dX5_add_43 rfl (by decide +kernel) ?_
          refine g_lload_n hC 4 46 rfl dX5_add_45 rfl rfl ?_
          refine g_cVN hC 49 2 [.int (fI (-2)), .long (fL a3)] [] (cn_X0_hold l P7 hP7 (-2) a3 _) rfl rfl (tb_C hP7) rfl gw_269 gw_272 gw_62 gw_271 gw_2 (by decide +kernel) rfl ⟨Nat.le_of_ble_eq_true rfl, Nat.le_of_ble_eq_true rfl⟩ (Nat.le_of_ble_eq_true rfl) ⟨Nat.zero_le _, Nat.zero_le _⟩ dX5_add_46 rfl (fun _ => []) (fun _ => rfl) (fun _ M13 => ?_)
          refine g_iconst hC 50 dX5_add_49 rfl ?_
          exact g_zreturn hC hr hk dX5_add_50
        · refine g_iconst hC 40 dX5_add_39 rfl ?_
          exact g_zreturn hC hr hk dX5_add_40
    · refine g_iconst hC 15 dX5_add_14 rfl ?_
      exact g_zreturn hC hr hk dX5_add_15
theorem cn_X5_add (l : Launch) (a1 : Int) (a2 : Int) (a3 : Int) (M : fMem) : fMt l vwCl TB yX5_add cX5_add 6 (some .boolean) 2 47 0 (fun ad => [.ref (ad 0), .int (fI a1), .int (fI a2), .long (fL a3)]) M (dn_X5_add a1 a2 a3 M) :=
  fMt.of (by decide +kernel) (fun _ => Nat.le_of_ble_eq_true rfl) (fun p e s m args below meth c D aC ad hC hr hk => wk_X5_add hC hr hk a1 a2 a3 M)
def dn_X5_edit (a1 : Int) (a2 : Int) (a3 : Int) (M : fMem) : fOp :=
  fCl (dn_X5_isClient a1 M) (fun v1 M2 => fEq v1 0 (fRz 0 M2) (fCl (dn_X5_isFile a2 M2) (fun v3 M4 => fEq v3 0 (fRz 0 M4) (fCl (dn_X5_copyOf a1 a2 M4) (fun v5 M6 => fCk v5 (fun P7 => fCl (dn_X0_hasText P7 M6) (fun v8 M9 => fEq v8 0 (fRz 0 M9) (fCl (dn_X4_isText a3 M9) (fun v10 M11 => fEq v10 0 (fRz 0 M11) (fPt M11 P7 2 a3 (fun M12 => fRz 1 M12)))))))))))
set_option maxRecDepth 100000 in
set_option maxHeartbeats 4000000 in
theorem wk_X5_edit {l : Launch} {p : Program} {e : Env} {s : State} {m : MethodId} {args : Array Value} {below : List Frame} {meth : Method} {c : Code} {D : va_G} {aC : Nat → ClassId} {ad : Nat → Nat} (hC : fCx p s m args c vwCl D aC TB ad (fFr ad TB) goodTs cX5_edit RX5 6) (hr : meth.sig.returnType = some .boolean) (hk : meth.locks = false) (a1 : Int) (a2 : Int) (a3 : Int) (M : fMem) : GM l p e s m args below meth c D aC ad 6 2 40 0 0 [(0, .ref (ad 0)), (1, .int (fI a1)), (2, .int (fI a2)), (3, .long (fL a3))] [] M (dn_X5_edit a1 a2 a3 M) := by
  unfold dn_X5_edit
  refine g_iload_n hC 1 1 rfl dX5_edit_0 rfl rfl ?_
  refine g_cS hC 4 1 [.int (fI a1)] [] (cn_X5_isClient l a1 _) rfl rfl gw_243 gw_245 gw_59 gw_244 (by decide +kernel) rfl ⟨Nat.le_of_ble_eq_true rfl, Nat.le_of_ble_eq_true rfl⟩ (Nat.le_of_ble_eq_true rfl) ⟨Nat.zero_le _, Nat.zero_le _⟩ dX5_edit_1 rfl (fun v1 => .int (fI v1) :: []) (fun _ => rfl) (fun v1 M2 => ?_)
  refine g_if_eq hC 14 7 dX5_edit_4 rfl rfl ?_ ?_
  · refine g_iconst hC 15 dX5_edit_14 rfl ?_
    exact g_zreturn hC hr hk dX5_edit_15
  · refine g_iload_n hC 2 8 rfl dX5_edit_7 rfl rfl ?_
    refine g_cS hC 11 1 [.int (fI a2)] [] (cn_X5_isFile l a2 _) rfl rfl gw_246 gw_248 gw_59 gw_247 (by decide +kernel) rfl ⟨Nat.le_of_ble_eq_true rfl, Nat.le_of_ble_eq_true rfl⟩ (Nat.le_of_ble_eq_true rfl) ⟨Nat.zero_le _, Nat.zero_le _⟩ dX5_edit_8 rfl (fun v3 => .int (fI v3) :: []) (fun _ => rfl) (fun v3 M4 => ?_)
    refine g_if_ne hC 16 14 dX5_edit_11 rfl rfl ?_ ?_
    · refine g_aload_n hC 0 17 rfl dX5_edit_16 rfl rfl ?_
      refine g_iload_n hC 1 18 rfl dX5_edit_17 rfl rfl ?_
      refine g_iload_n hC 2 19 rfl dX5_edit_18 rfl rfl ?_
      refine g_cV hC 22 2 [.int (fI a1), .int (fI a2)] [] (cn_X5_copyOf l a1 a2 _) rfl rfl tb_RS rfl gw_249 gw_252 gw_59 gw_251 gw_0 (by decide +kernel) rfl ⟨Nat.le_of_ble_eq_true rfl, Nat.le_of_ble_eq_true rfl⟩ (Nat.le_of_ble_eq_true rfl) ⟨Nat.zero_le _, Nat.zero_le _⟩ dX5_edit_19 rfl (fun v5 => .ref (ad v5.toNat) :: []) (fun _ => rfl) (fun v5 M6 => ?_)
      refine g_ck (fun P7 hP7 => ?_)
      refine g_astore hC 24 [(5, .ref (ad P7)), (0, .ref (ad 0)), (1, .int (fI a1)), (2, .int (fI a2)), (3, .long (fL a3))] dX5_edit_22 (by decide) rfl rfl ?_
      refine g_aload hC 0 26 rfl dX5_edit_24 rfl ?_
      refine g_cVN hC 29 0 [] [] (cn_X0_hasText l P7 hP7 _) rfl rfl (tb_C hP7) rfl gw_277 gw_280 gw_62 gw_279 gw_3 (by decide +kernel) rfl ⟨Nat.le_of_ble_eq_true rfl, Nat.le_of_ble_eq_true rfl⟩ (Nat.le_of_ble_eq_true rfl) ⟨Nat.zero_le _, Nat.zero_le _⟩ dX5_edit_26 rfl (fun v8 => .int (fI v8) :: []) (fun _ => rfl) (fun v8 M9 => ?_)
      refine g_if_eq hC 39 32 dX5_edit_29 rfl rfl ?_ ?_
      · refine g_iconst hC 40 dX5_edit_39 rfl ?_
        exact g_zreturn hC hr hk dX5_edit_40
      · refine g_lload_n hC 4 33 rfl dX5_edit_32 rfl rfl ?_
        refine g_cSN hC 36 1 [.long (fL a3)] [] (cn_X4_isText l a3 _) rfl rfl gw_282 gw_262 gw_66 gw_261 (by decide +kernel) rfl ⟨Nat.le_of_ble_eq_true rfl, Nat.le_of_ble_eq_true rfl⟩ (Nat.le_of_ble_eq_true rfl) ⟨Nat.zero_le _, Nat.zero_le _⟩ dX5_edit_33 rfl (fun v10 => .int (fI v10) :: []) (fun _ => rfl) (fun v10 M11 => ?_)
        refine g_if_ne hC 41 39 dX5_edit_36 rfl rfl ?_ ?_
        · refine g_aload hC 0 43 rfl dX5_edit_41 rfl ?_
          refine g_lload_n hC 4 44 rfl dX5_edit_43 rfl rfl ?_
          refine g_putJN hC 47 tyX0 tyX0_ok nmX0 inX0 rfl 2 (by decide) gw_150 rfl rfl (by decide +kernel) (tb_C hP7) rfl dX5_edit_44 rfl (fun M12 => ?_)
          refine g_iconst hC 48 dX5_edit_47 rfl ?_
          exact g_zreturn hC hr hk dX5_edit_48
        · refine g_iconst hC 40 dX5_edit_39 rfl ?_
          exact g_zreturn hC hr hk dX5_edit_40
    · refine g_iconst hC 15 dX5_edit_14 rfl ?_
      exact g_zreturn hC hr hk dX5_edit_15
theorem cn_X5_edit (l : Launch) (a1 : Int) (a2 : Int) (a3 : Int) (M : fMem) : fMt l vwCl TB yX5_edit cX5_edit 6 (some .boolean) 2 40 0 (fun ad => [.ref (ad 0), .int (fI a1), .int (fI a2), .long (fL a3)]) M (dn_X5_edit a1 a2 a3 M) :=
  fMt.of (by decide +kernel) (fun _ => Nat.le_of_ble_eq_true rfl) (fun p e s m args below meth c D aC ad hC hr hk => wk_X5_edit hC hr hk a1 a2 a3 M)
def dn_X5_remove (a1 : Int) (a2 : Int) (M : fMem) : fOp :=
  fCl (dn_X5_isClient a1 M) (fun v1 M2 => fEq v1 0 (fRz 0 M2) (fCl (dn_X5_isFile a2 M2) (fun v3 M4 => fEq v3 0 (fRz 0 M4) (fCl (dn_X5_copyOf a1 a2 M4) (fun v5 M6 => fCk v5 (fun P7 => fCl (dn_X0_hasText P7 M6) (fun v8 M9 => fEq v8 0 (fRz 0 M9) (fCl (dn_X0_hasRevision P7 M9) (fun v10 M11 => fEq v10 0 (fCl (dn_X0_drop P7 M11) (fun _ M13 => fRz 1 M13)) (fCl (dn_X0_markGone P7 M11) (fun _ M15 => fRz 1 M15)))))))))))
set_option maxRecDepth 100000 in
set_option maxHeartbeats 4000000 in
theorem wk_X5_remove {l : Launch} {p : Program} {e : Env} {s : State} {m : MethodId} {args : Array Value} {below : List Frame} {meth : Method} {c : Code} {D : va_G} {aC : Nat → ClassId} {ad : Nat → Nat} (hC : fCx p s m args c vwCl D aC TB ad (fFr ad TB) goodTs cX5_remove RX5 4) (hr : meth.sig.returnType = some .boolean) (hk : meth.locks = false) (a1 : Int) (a2 : Int) (M : fMem) : GM l p e s m args below meth c D aC ad 4 2 40 0 0 [(0, .ref (ad 0)), (1, .int (fI a1)), (2, .int (fI a2))] [] M (dn_X5_remove a1 a2 M) := by
  unfold dn_X5_remove
  refine g_iload_n hC 1 1 rfl dX5_remove_0 rfl rfl ?_
  refine g_cS hC 4 1 [.int (fI a1)] [] (cn_X5_isClient l a1 _) rfl rfl gw_243 gw_245 gw_59 gw_244 (by decide +kernel) rfl ⟨Nat.le_of_ble_eq_true rfl, Nat.le_of_ble_eq_true rfl⟩ (Nat.le_of_ble_eq_true rfl) ⟨Nat.zero_le _, Nat.zero_le _⟩ dX5_remove_1 rfl (fun v1 => .int (fI v1) :: []) (fun _ => rfl) (fun v1 M2 => ?_)
  refine g_if_eq hC 14 7 dX5_remove_4 rfl rfl ?_ ?_
  · refine g_iconst hC 15 dX5_remove_14 rfl ?_
    exact g_zreturn hC hr hk dX5_remove_15
  · refine g_iload_n hC 2 8 rfl dX5_remove_7 rfl rfl ?_
    refine g_cS hC 11 1 [.int (fI a2)] [] (cn_X5_isFile l a2 _) rfl rfl gw_246 gw_248 gw_59 gw_247 (by decide +kernel) rfl ⟨Nat.le_of_ble_eq_true rfl, Nat.le_of_ble_eq_true rfl⟩ (Nat.le_of_ble_eq_true rfl) ⟨Nat.zero_le _, Nat.zero_le _⟩ dX5_remove_8 rfl (fun v3 => .int (fI v3) :: []) (fun _ => rfl) (fun v3 M4 => ?_)
    refine g_if_ne hC 16 14 dX5_remove_11 rfl rfl ?_ ?_
    · refine g_aload_n hC 0 17 rfl dX5_remove_16 rfl rfl ?_
      refine g_iload_n hC 1 18 rfl dX5_remove_17 rfl rfl ?_
      refine g_iload_n hC 2 19 rfl dX5_remove_18 rfl rfl ?_
      refine g_cV hC 22 2 [.int (fI a1), .int (fI a2)] [] (cn_X5_copyOf l a1 a2 _) rfl rfl tb_RS rfl gw_249 gw_252 gw_59 gw_251 gw_0 (by decide +kernel) rfl ⟨Nat.le_of_ble_eq_true rfl, Nat.le_of_ble_eq_true rfl⟩ (Nat.le_of_ble_eq_true rfl) ⟨Nat.zero_le _, Nat.zero_le _⟩ dX5_remove_19 rfl (fun v5 => .ref (ad v5.toNat) :: []) (fun _ => rfl) (fun v5 M6 => ?_)
      refine g_ck (fun P7 hP7 => ?_)
      refine g_astore_n hC 23 [(3, .ref (ad P7)), (0, .ref (ad 0)), (1, .int (fI a1)), (2, .int (fI a2))] dX5_remove_22 rfl (by decide) rfl rfl ?_
      refine g_aload_n hC 0 24 rfl dX5_remove_23 rfl rfl ?_
      refine g_cVN hC 27 0 [] [] (cn_X0_hasText l P7 hP7 _) rfl rfl (tb_C hP7) rfl gw_277 gw_280 gw_62 gw_279 gw_3 (by decide +kernel) rfl ⟨Nat.le_of_ble_eq_true rfl, Nat.le_of_ble_eq_true rfl⟩ (Nat.le_of_ble_eq_true rfl) ⟨Nat.zero_le _, Nat.zero_le _⟩ dX5_remove_24 rfl (fun v8 => .int (fI v8) :: []) (fun _ => rfl) (fun v8 M9 => ?_)
      refine g_if_ne hC 32 30 dX5_remove_27 rfl rfl ?_ ?_
      · refine g_aload_n hC 0 33 rfl dX5_remove_32 rfl rfl ?_
        refine g_cVN hC 36 0 [] [] (cn_X0_hasRevision l P7 hP7 _) rfl rfl (tb_C hP7) rfl gw_287 gw_290 gw_62 gw_289 gw_4 (by decide +kernel) rfl ⟨Nat.le_of_ble_eq_true rfl, Nat.le_of_ble_eq_true rfl⟩ (Nat.le_of_ble_eq_true rfl) ⟨Nat.zero_le _, Nat.zero_le _⟩ dX5_remove_33 rfl (fun v10 => .int (fI v10) :: []) (fun _ => rfl) (fun v10 M11 => ?_)
        refine g_if_eq hC 46 39 dX5_remove_36 rfl rfl ?_ ?_
        · refine g_aload_n hC 0 47 rfl dX5_remove_46 rfl rfl ?_
          refine g_cVN hC 50 0 [] [] (cn_X0_drop l P7 hP7 _) rfl rfl (tb_C hP7) rfl gw_295 gw_298 gw_62 gw_297 gw_6 (by decide +kernel) rfl ⟨Nat.le_of_ble_eq_true rfl, Nat.le_of_ble_eq_true rfl⟩ (Nat.le_of_ble_eq_true rfl) ⟨Nat.zero_le _, Nat.zero_le _⟩ dX5_remove_47 rfl (fun _ => []) (fun _ => rfl) (fun _ M13 => ?_)
          refine g_iconst hC 51 dX5_remove_50 rfl ?_
          exact g_zreturn hC hr hk dX5_remove_51
        · refine g_aload_n hC 0 40 rfl dX5_remove_39 rfl rfl ?_
          refine g_cVN hC 43 0 [] [] (cn_X0_markGone l P7 hP7 _) rfl rfl (tb_C hP7) rfl gw_291 gw_294 gw_62 gw_293 gw_5 (by decide +kernel) rfl ⟨Nat.le_of_ble_eq_true rfl, Nat.le_of_ble_eq_true rfl⟩ (Nat.le_of_ble_eq_true rfl) ⟨Nat.zero_le _, Nat.zero_le _⟩ dX5_remove_40 rfl (fun _ => []) (fun _ => rfl) (fun _ M15 => ?_)
          refine g_goto hC 50 dX5_remove_43 rfl ?_
          refine g_iconst hC 51 dX5_remove_50 rfl ?_
          exact g_zreturn hC hr hk dX5_remove_51
      · refine g_iconst hC 31 dX5_remove_30 rfl ?_
        exact g_zreturn hC hr hk dX5_remove_31
    · refine g_iconst hC 15 dX5_remove_14 rfl ?_
      exact g_zreturn hC hr hk dX5_remove_15
theorem cn_X5_remove (l : Launch) (a1 : Int) (a2 : Int) (M : fMem) : fMt l vwCl TB yX5_remove cX5_remove 4 (some .boolean) 2 40 0 (fun ad => [.ref (ad 0), .int (fI a1), .int (fI a2)]) M (dn_X5_remove a1 a2 M) :=
  fMt.of (by decide +kernel) (fun _ => Nat.le_of_ble_eq_true rfl) (fun p e s m args below meth c D aC ad hC hr hk => wk_X5_remove hC hr hk a1 a2 M)
def dn_X5_selectedBy (P1 : Nat) (a2 : Int) (M : fMem) : fOp :=
  fCl (dn_X2_isThere P1 M) (fun v1 M2 => fEq v1 0 (some ((-1), M2)) (fEq a2 (-1) (fGt M2 P1 12 (fun x7 => fCl (dn_X2_tip P1 x7 M2) (fun v8 M9 => some (v8, M9)))) (fRd M2 (P1 + 10) 5 a2 (fun x3 => fEq x3 (-1) (some (x3, M2)) (fRd M2 59 5 a2 (fun x4 => fEq x4 1 (some (x3, M2)) (fCl (dn_X2_tip P1 x3 M2) (fun v5 M6 => some (v5, M6)))))))))
set_option maxRecDepth 100000 in
set_option maxHeartbeats 4000000 in
theorem wk_X5_selectedBy {l : Launch} {p : Program} {e : Env} {s : State} {m : MethodId} {args : Array Value} {below : List Frame} {meth : Method} {c : Code} {D : va_G} {aC : Nat → ClassId} {ad : Nat → Nat} (hC : fCx p s m args c vwCl D aC TB ad (fFr ad TB) goodTs cX5_selectedBy RX5 4) (hr : meth.sig.returnType = some .int) (hk : meth.locks = false) (P1 : Nat) (hP1 : fIsH P1) (a2 : Int) (M : fMem) : GM l p e s m args below meth c D aC ad 4 1 21 0 0 [(0, .ref (ad 0)), (1, .ref (ad P1)), (2, .int (fI a2))] [] M (dn_X5_selectedBy P1 a2 M) := by
  unfold dn_X5_selectedBy
  refine g_aload_n hC 1 1 rfl dX5_selectedBy_0 rfl rfl ?_
  refine g_cVN hC 4 0 [] [] (cn_X2_isThere l P1 hP1 _) rfl rfl (tb_H hP1) rfl gw_315 gw_318 gw_60 gw_317 gw_10 (by decide +kernel) rfl ⟨Nat.le_of_ble_eq_true rfl, Nat.le_of_ble_eq_true rfl⟩ (Nat.le_of_ble_eq_true rfl) ⟨Nat.zero_le _, Nat.zero_le _⟩ dX5_selectedBy_1 rfl (fun v1 => .int (fI v1) :: []) (fun _ => rfl) (fun v1 M2 => ?_)
  refine g_if_ne hC 9 7 dX5_selectedBy_4 rfl rfl ?_ ?_
  · refine g_iload_n hC 2 10 rfl dX5_selectedBy_9 rfl rfl ?_
    refine g_iconst hC 11 dX5_selectedBy_10 rfl ?_
    refine g_icmp_ne hC 23 14 dX5_selectedBy_11 rfl rfl ?_ ?_
    · refine g_aload_n hC 1 24 rfl dX5_selectedBy_23 rfl rfl ?_
      refine g_getAN hC 27 inX2 rfl 13 (by decide) gw_105 rfl (tb_H hP1) rfl dX5_selectedBy_24 rfl ?_
      refine g_iload_n hC 2 28 rfl dX5_selectedBy_27 rfl rfl ?_
      refine g_iald hC 29 (tb_H_10 hP1) (by decide) dX5_selectedBy_28 rfl (fun x3 => ?_)
      refine g_istore_n hC 30 [(3, .int (fI x3)), (0, .ref (ad 0)), (1, .ref (ad P1)), (2, .int (fI a2))] dX5_selectedBy_29 rfl (by decide) rfl rfl ?_
      refine g_iload_n hC 0 31 rfl dX5_selectedBy_30 rfl rfl ?_
      refine g_iconst hC 32 dX5_selectedBy_31 rfl ?_
      refine g_icmp_eq hC 45 35 dX5_selectedBy_32 rfl rfl ?_ ?_
      · refine g_iload_n hC 0 46 rfl dX5_selectedBy_45 rfl rfl ?_
        exact g_ireturn hC hr hk dX5_selectedBy_46
      · refine g_aload_n hC 1 36 rfl dX5_selectedBy_35 rfl rfl ?_
        refine g_getA hC 39 inX5 rfl 2 (by decide) gw_225 rfl tb_RS rfl dX5_selectedBy_36 rfl ?_
        refine g_iload_n hC 3 40 rfl dX5_selectedBy_39 rfl rfl ?_
        refine g_iald hC 41 tb_TS (by decide) dX5_selectedBy_40 rfl (fun x4 => ?_)
        refine g_iconst hC 42 dX5_selectedBy_41 rfl ?_
        refine g_icmp_ne hC 47 45 dX5_selectedBy_42 rfl rfl ?_ ?_
        · refine g_aload_n hC 2 48 rfl dX5_selectedBy_47 rfl rfl ?_
          refine g_iload_n hC 0 49 rfl dX5_selectedBy_48 rfl rfl ?_
          refine g_cVN hC 52 1 [.int (fI x3)] [] (cn_X2_tip l P1 hP1 x3 _) rfl rfl (tb_H hP1) rfl gw_319 gw_322 gw_60 gw_321 gw_11 (by decide +kernel) rfl ⟨Nat.le_of_ble_eq_true rfl, Nat.le_of_ble_eq_true rfl⟩ (Nat.le_of_ble_eq_true rfl) ⟨Nat.zero_le _, Nat.zero_le _⟩ dX5_selectedBy_49 rfl (fun v5 => .int (fI v5) :: []) (fun _ => rfl) (fun v5 M6 => ?_)
          exact g_ireturn hC hr hk dX5_selectedBy_52
        · refine g_iload_n hC 0 46 rfl dX5_selectedBy_45 rfl rfl ?_
          exact g_ireturn hC hr hk dX5_selectedBy_46
    · refine g_aload_n hC 1 15 rfl dX5_selectedBy_14 rfl rfl ?_
      refine g_aload_n hC 1 16 rfl dX5_selectedBy_15 rfl rfl ?_
      refine g_getIN hC 19 inX2 rfl 12 (by decide) gw_103 rfl (tb_H hP1) rfl dX5_selectedBy_16 rfl (fun x7 => ?_)
      refine g_cVN hC 22 1 [.int (fI x7)] [] (cn_X2_tip l P1 hP1 x7 _) rfl rfl (tb_H hP1) rfl gw_319 gw_322 gw_60 gw_321 gw_11 (by decide +kernel) rfl ⟨Nat.le_of_ble_eq_true rfl, Nat.le_of_ble_eq_true rfl⟩ (Nat.le_of_ble_eq_true rfl) ⟨Nat.zero_le _, Nat.zero_le _⟩ dX5_selectedBy_19 rfl (fun v8 => .int (fI v8) :: []) (fun _ => rfl) (fun v8 M9 => ?_)
      exact g_ireturn hC hr hk dX5_selectedBy_22
  · refine g_iconst hC 8 dX5_selectedBy_7 rfl ?_
    exact g_ireturn hC hr hk dX5_selectedBy_8
theorem cn_X5_selectedBy (l : Launch) (P1 : Nat) (hP1 : fIsH P1) (a2 : Int) (M : fMem) : fMt l vwCl TB yX5_selectedBy cX5_selectedBy 4 (some .int) 1 21 0 (fun ad => [.ref (ad 0), .ref (ad P1), .int (fI a2)]) M (dn_X5_selectedBy P1 a2 M) :=
  fMt.of (by decide +kernel) (fun _ => Nat.le_of_ble_eq_true rfl) (fun p e s m args below meth c D aC ad hC hr hk => wk_X5_selectedBy hC hr hk P1 hP1 a2 M)
def dn_X5_isStale (P1 : Nat) (P2 : Nat) (M : fMem) : fOp :=
  fGt M P1 3 (fun x1 => fCl (dn_X5_selectedBy P2 x1 M) (fun v2 M3 => fCl (dn_X0_hasRevision P1 M3) (fun v4 M5 => fEq v4 0 (fCl (dn_X2_isAlive P2 v2 M5) (fun v6 M7 => fRz v6 M7)) (fGt M5 P1 0 (fun x8 => fEq x8 v2 (fRz 0 M5) (fRz 1 M5))))))
set_option maxRecDepth 100000 in
set_option maxHeartbeats 4000000 in
theorem wk_X5_isStale {l : Launch} {p : Program} {e : Env} {s : State} {m : MethodId} {args : Array Value} {below : List Frame} {meth : Method} {c : Code} {D : va_G} {aC : Nat → ClassId} {ad : Nat → Nat} (hC : fCx p s m args c vwCl D aC TB ad (fFr ad TB) goodTs cX5_isStale RX5 4) (hr : meth.sig.returnType = some .boolean) (hk : meth.locks = false) (P1 : Nat) (hP1 : fIsC P1) (P2 : Nat) (hP2 : fIsH P2) (M : fMem) : GM l p e s m args below meth c D aC ad 4 2 44 0 0 [(0, .ref (ad 0)), (1, .ref (ad P1)), (2, .ref (ad P2))] [] M (dn_X5_isStale P1 P2 M) := by
  unfold dn_X5_isStale
  refine g_aload_n hC 0 1 rfl dX5_isStale_0 rfl rfl ?_
  refine g_aload_n hC 2 2 rfl dX5_isStale_1 rfl rfl ?_
  refine g_aload_n hC 1 3 rfl dX5_isStale_2 rfl rfl ?_
  refine g_getIN hC 6 inX0 rfl 3 (by decide) gw_152 rfl (tb_C hP1) rfl dX5_isStale_3 rfl (fun x1 => ?_)
  refine g_cV hC 9 2 [.ref (ad P2), .int (fI x1)] [] (cn_X5_selectedBy l P2 hP2 x1 _) rfl rfl tb_RS rfl gw_311 gw_314 gw_59 gw_313 gw_9 (by decide +kernel) rfl ⟨Nat.le_of_ble_eq_true rfl, Nat.le_of_ble_eq_true rfl⟩ (Nat.le_of_ble_eq_true rfl) ⟨Nat.zero_le _, Nat.zero_le _⟩ dX5_isStale_6 rfl (fun v2 => .int (fI v2) :: []) (fun _ => rfl) (fun v2 M3 => ?_)
  refine g_istore_n hC 10 [(3, .int (fI v2)), (0, .ref (ad 0)), (1, .ref (ad P1)), (2, .ref (ad P2))] dX5_isStale_9 rfl (by decide) rfl rfl ?_
  refine g_aload_n hC 2 11 rfl dX5_isStale_10 rfl rfl ?_
  refine g_cVN hC 14 0 [] [] (cn_X0_hasRevision l P1 hP1 _) rfl rfl (tb_C hP1) rfl gw_287 gw_290 gw_62 gw_289 gw_4 (by decide +kernel) rfl ⟨Nat.le_of_ble_eq_true rfl, Nat.le_of_ble_eq_true rfl⟩ (Nat.le_of_ble_eq_true rfl) ⟨Nat.zero_le _, Nat.zero_le _⟩ dX5_isStale_11 rfl (fun v4 => .int (fI v4) :: []) (fun _ => rfl) (fun v4 M5 => ?_)
  refine g_if_eq hC 33 17 dX5_isStale_14 rfl rfl ?_ ?_
  · refine g_aload_n hC 3 34 rfl dX5_isStale_33 rfl rfl ?_
    refine g_iload_n hC 0 35 rfl dX5_isStale_34 rfl rfl ?_
    refine g_cVN hC 38 1 [.int (fI v2)] [] (cn_X2_isAlive l P2 hP2 v2 _) rfl rfl (tb_H hP2) rfl gw_323 gw_326 gw_60 gw_325 gw_12 (by decide +kernel) rfl ⟨Nat.le_of_ble_eq_true rfl, Nat.le_of_ble_eq_true rfl⟩ (Nat.le_of_ble_eq_true rfl) ⟨Nat.zero_le _, Nat.zero_le _⟩ dX5_isStale_35 rfl (fun v6 => .int (fI v6) :: []) (fun _ => rfl) (fun v6 M7 => ?_)
    exact g_zreturn hC hr hk dX5_isStale_38
  · refine g_aload_n hC 2 18 rfl dX5_isStale_17 rfl rfl ?_
    refine g_getIN hC 21 inX0 rfl 0 (by decide) gw_146 rfl (tb_C hP1) rfl dX5_isStale_18 rfl (fun x8 => ?_)
    refine g_iload_n hC 0 22 rfl dX5_isStale_21 rfl rfl ?_
    refine g_icmp_eq hC 29 25 dX5_isStale_22 rfl rfl ?_ ?_
    · refine g_iconst hC 30 dX5_isStale_29 rfl ?_
      refine g_goto hC 38 dX5_isStale_30 rfl ?_
      exact g_zreturn hC hr hk dX5_isStale_38
    · refine g_iconst hC 26 dX5_isStale_25 rfl ?_
      refine g_goto hC 38 dX5_isStale_26 rfl ?_
      exact g_zreturn hC hr hk dX5_isStale_38
theorem cn_X5_isStale (l : Launch) (P1 : Nat) (hP1 : fIsC P1) (P2 : Nat) (hP2 : fIsH P2) (M : fMem) : fMt l vwCl TB yX5_isStale cX5_isStale 4 (some .boolean) 2 44 0 (fun ad => [.ref (ad 0), .ref (ad P1), .ref (ad P2)]) M (dn_X5_isStale P1 P2 M) :=
  fMt.of (by decide +kernel) (fun _ => Nat.le_of_ble_eq_true rfl) (fun p e s m args below meth c D aC ad hC hr hk => wk_X5_isStale hC hr hk P1 hP1 P2 hP2 M)
def dn_X5_isModified (P0 : Nat) (P1 : Nat) (M : fMem) : fOp :=
  fGt M P0 2 (fun x1 => fGt M P0 0 (fun x2 => fRd M (P1 + 1) 24 x2 (fun x3 => fEqL x1 x3 (fRz 0 M) (fRz 1 M))))
set_option maxRecDepth 100000 in
set_option maxHeartbeats 4000000 in
theorem wk_X5_isModified {l : Launch} {p : Program} {e : Env} {s : State} {m : MethodId} {args : Array Value} {below : List Frame} {meth : Method} {c : Code} {D : va_G} {aC : Nat → ClassId} {ad : Nat → Nat} (hC : fCx p s m args c vwCl D aC TB ad (fFr ad TB) goodTs cX5_isModified RX5 2) (hr : meth.sig.returnType = some .boolean) (hk : meth.locks = false) (P0 : Nat) (hP0 : fIsC P0) (P1 : Nat) (hP1 : fIsH P1) (M : fMem) : GM l p e s m args below meth c D aC ad 2 0 0 0 0 [(0, .ref (ad P0)), (1, .ref (ad P1))] [] M (dn_X5_isModified P0 P1 M) := by
  unfold dn_X5_isModified
  refine g_aload_n hC 0 1 rfl dX5_isModified_0 rfl rfl ?_
  refine g_getJN hC 4 inX0 rfl 2 (by decide) gw_150 rfl (tb_C hP0) rfl dX5_isModified_1 rfl (fun x1 => ?_)
  refine g_aload_n hC 1 5 rfl dX5_isModified_4 rfl rfl ?_
  refine g_getAN hC 8 inX2 rfl 0 (by decide) gw_87 rfl (tb_H hP1) rfl dX5_isModified_5 rfl ?_
  refine g_aload_n hC 0 9 rfl dX5_isModified_8 rfl rfl ?_
  refine g_getIN hC 12 inX0 rfl 0 (by decide) gw_146 rfl (tb_C hP0) rfl dX5_isModified_9 rfl (fun x2 => ?_)
  refine g_lald hC 13 (tb_H_1 hP1) (by decide) dX5_isModified_12 rfl (fun x3 => ?_)
  refine g_lcmp_eq hC 21 17 dX5_isModified_13 dX5_isModified_14 rfl rfl ?_ ?_
  · refine g_iconst hC 22 dX5_isModified_21 rfl ?_
    exact g_zreturn hC hr hk dX5_isModified_22
  · refine g_iconst hC 18 dX5_isModified_17 rfl ?_
    refine g_goto hC 22 dX5_isModified_18 rfl ?_
    exact g_zreturn hC hr hk dX5_isModified_22
theorem cn_X5_isModified (l : Launch) (P0 : Nat) (hP0 : fIsC P0) (P1 : Nat) (hP1 : fIsH P1) (M : fMem) : fMt l vwCl TB yX5_isModified cX5_isModified 2 (some .boolean) 0 0 0 (fun ad => [.ref (ad P0), .ref (ad P1)]) M (dn_X5_isModified P0 P1 M) :=
  fMt.of (by decide +kernel) (fun _ => Nat.le_of_ble_eq_true rfl) (fun p e s m args below meth c D aC ad hC hr hk => wk_X5_isModified hC hr hk P0 hP0 P1 hP1 M)
def dn_X5_hasRoomToCommit_J46 (P0 : Nat) (P1 : Nat) (a2 as0 : Int) (M : fMem) : fOp :=
  fCl (dn_X2_hasRoom P1 a2 as0 M) (fun v6 M7 => fRz v6 M7)
set_option maxRecDepth 100000 in
set_option maxHeartbeats 4000000 in
theorem wk_X5_hasRoomToCommit_J46 {l : Launch} {p : Program} {e : Env} {s : State} {m : MethodId} {args : Array Value} {below : List Frame} {meth : Method} {c : Code} {D : va_G} {aC : Nat → ClassId} {ad : Nat → Nat} (hC : fCx p s m args c vwCl D aC TB ad (fFr ad TB) goodTs cX5_hasRoomToCommit RX5 4) (hr : meth.sig.returnType = some .boolean) (hk : meth.locks = false) (P0 : Nat) (hP0 : fIsC P0) (P1 : Nat) (hP1 : fIsH P1) (a2 as0 : Int)  (M : fMem) : GM l p e s m args below meth c D aC ad 4 1 22 0 46 [(0, .ref (ad P0)), (1, .ref (ad P1)), (2, .int (fI a2))] [.int (fI as0)] M (dn_X5_hasRoomToCommit_J46 P0 P1 a2 as0 M) := by
  unfold dn_X5_hasRoomToCommit_J46
  refine g_istore_n hC 47 [(3, .int (fI as0)), (0, .ref (ad P0)), (1, .ref (ad P1)), (2, .int (fI a2))] dX5_hasRoomToCommit_46 rfl (by decide) rfl rfl ?_
  refine g_aload_n hC 2 48 rfl dX5_hasRoomToCommit_47 rfl rfl ?_
  refine g_iload_n hC 3 49 rfl dX5_hasRoomToCommit_48 rfl rfl ?_
  refine g_iload_n hC 0 50 rfl dX5_hasRoomToCommit_49 rfl rfl ?_
  refine g_cVN hC 53 2 [.int (fI a2), .int (fI as0)] [] (cn_X2_hasRoom l P1 hP1 a2 as0 _) rfl rfl (tb_H hP1) rfl gw_334 gw_337 gw_60 gw_336 gw_13 (by decide +kernel) rfl ⟨Nat.le_of_ble_eq_true rfl, Nat.le_of_ble_eq_true rfl⟩ (Nat.le_of_ble_eq_true rfl) ⟨Nat.zero_le _, Nat.zero_le _⟩ dX5_hasRoomToCommit_50 rfl (fun v6 => .int (fI v6) :: []) (fun _ => rfl) (fun v6 M7 => ?_)
  exact g_zreturn hC hr hk dX5_hasRoomToCommit_53
def dn_X5_hasRoomToCommit_J27 (P0 : Nat) (P1 : Nat) (as0 : Int) (M : fMem) : fOp :=
  fGt M P0 3 (fun x4 => fRd M (P1 + 10) 5 x4 (fun x5 => fEq x5 (-1) (dn_X5_hasRoomToCommit_J46 P0 P1 as0 1 M) (dn_X5_hasRoomToCommit_J46 P0 P1 as0 0 M)))
set_option maxRecDepth 100000 in
set_option maxHeartbeats 4000000 in
theorem wk_X5_hasRoomToCommit_J27 {l : Launch} {p : Program} {e : Env} {s : State} {m : MethodId} {args : Array Value} {below : List Frame} {meth : Method} {c : Code} {D : va_G} {aC : Nat → ClassId} {ad : Nat → Nat} (hC : fCx p s m args c vwCl D aC TB ad (fFr ad TB) goodTs cX5_hasRoomToCommit RX5 4) (hr : meth.sig.returnType = some .boolean) (hk : meth.locks = false) (P0 : Nat) (hP0 : fIsC P0) (P1 : Nat) (hP1 : fIsH P1) (as0 : Int)  (M : fMem) : GM l p e s m args below meth c D aC ad 4 1 22 0 27 [(0, .ref (ad P0)), (1, .ref (ad P1))] [.int (fI as0)] M (dn_X5_hasRoomToCommit_J27 P0 P1 as0 M) := by
  unfold dn_X5_hasRoomToCommit_J27
  refine g_istore_n hC 28 [(2, .int (fI as0)), (0, .ref (ad P0)), (1, .ref (ad P1))] dX5_hasRoomToCommit_27 rfl (by decide) rfl rfl ?_
  refine g_aload_n hC 2 29 rfl dX5_hasRoomToCommit_28 rfl rfl ?_
  refine g_getAN hC 32 inX2 rfl 13 (by decide) gw_105 rfl (tb_H hP1) rfl dX5_hasRoomToCommit_29 rfl ?_
  refine g_aload_n hC 1 33 rfl dX5_hasRoomToCommit_32 rfl rfl ?_
  refine g_getIN hC 36 inX0 rfl 3 (by decide) gw_152 rfl (tb_C hP0) rfl dX5_hasRoomToCommit_33 rfl (fun x4 => ?_)
  refine g_iald hC 37 (tb_H_10 hP1) (by decide) dX5_hasRoomToCommit_36 rfl (fun x5 => ?_)
  refine g_iconst hC 38 dX5_hasRoomToCommit_37 rfl ?_
  refine g_icmp_ne hC 45 41 dX5_hasRoomToCommit_38 rfl rfl ?_ ?_
  · refine g_iconst hC 46 dX5_hasRoomToCommit_45 rfl ?_
    refine g_lv [1, 2, 0] rfl ?_
    exact wk_X5_hasRoomToCommit_J46 hC hr hk _ hP0 _ hP1 _ _ _
  · refine g_iconst hC 42 dX5_hasRoomToCommit_41 rfl ?_
    refine g_goto hC 46 dX5_hasRoomToCommit_42 rfl ?_
    refine g_lv [1, 2, 0] rfl ?_
    exact wk_X5_hasRoomToCommit_J46 hC hr hk _ hP0 _ hP1 _ _ _
def dn_X5_hasRoomToCommit (P0 : Nat) (P1 : Nat) (M : fMem) : fOp :=
  fGt M P0 3 (fun x1 => fEq x1 (-1) (fCl (dn_X2_hasRoom P1 1 0 M) (fun v8 M9 => fRz v8 M9)) (fCl (dn_X2_isThere P1 M) (fun v2 M3 => fEq v2 0 (dn_X5_hasRoomToCommit_J27 P0 P1 2 M3) (dn_X5_hasRoomToCommit_J27 P0 P1 1 M3))))
set_option maxRecDepth 100000 in
set_option maxHeartbeats 4000000 in
theorem wk_X5_hasRoomToCommit {l : Launch} {p : Program} {e : Env} {s : State} {m : MethodId} {args : Array Value} {below : List Frame} {meth : Method} {c : Code} {D : va_G} {aC : Nat → ClassId} {ad : Nat → Nat} (hC : fCx p s m args c vwCl D aC TB ad (fFr ad TB) goodTs cX5_hasRoomToCommit RX5 4) (hr : meth.sig.returnType = some .boolean) (hk : meth.locks = false) (P0 : Nat) (hP0 : fIsC P0) (P1 : Nat) (hP1 : fIsH P1) (M : fMem) : GM l p e s m args below meth c D aC ad 4 1 22 0 0 [(0, .ref (ad P0)), (1, .ref (ad P1))] [] M (dn_X5_hasRoomToCommit P0 P1 M) := by
  unfold dn_X5_hasRoomToCommit
  refine g_aload_n hC 0 1 rfl dX5_hasRoomToCommit_0 rfl rfl ?_
  refine g_getIN hC 4 inX0 rfl 3 (by decide) gw_152 rfl (tb_C hP0) rfl dX5_hasRoomToCommit_1 rfl (fun x1 => ?_)
  refine g_iconst hC 5 dX5_hasRoomToCommit_4 rfl ?_
  refine g_icmp_ne hC 15 8 dX5_hasRoomToCommit_5 rfl rfl ?_ ?_
  · refine g_aload_n hC 1 16 rfl dX5_hasRoomToCommit_15 rfl rfl ?_
    refine g_cVN hC 19 0 [] [] (cn_X2_isThere l P1 hP1 _) rfl rfl (tb_H hP1) rfl gw_315 gw_318 gw_60 gw_317 gw_10 (by decide +kernel) rfl ⟨Nat.le_of_ble_eq_true rfl, Nat.le_of_ble_eq_true rfl⟩ (Nat.le_of_ble_eq_true rfl) ⟨Nat.zero_le _, Nat.zero_le _⟩ dX5_hasRoomToCommit_16 rfl (fun v2 => .int (fI v2) :: []) (fun _ => rfl) (fun v2 M3 => ?_)
    refine g_if_eq hC 26 22 dX5_hasRoomToCommit_19 rfl rfl ?_ ?_
    · refine g_iconst hC 27 dX5_hasRoomToCommit_26 rfl ?_
      exact wk_X5_hasRoomToCommit_J27 hC hr hk _ hP0 _ hP1 _ _
    · refine g_iconst hC 23 dX5_hasRoomToCommit_22 rfl ?_
      refine g_goto hC 27 dX5_hasRoomToCommit_23 rfl ?_
      exact wk_X5_hasRoomToCommit_J27 hC hr hk _ hP0 _ hP1 _ _
  · refine g_aload_n hC 1 9 rfl dX5_hasRoomToCommit_8 rfl rfl ?_
    refine g_iconst hC 10 dX5_hasRoomToCommit_9 rfl ?_
    refine g_iconst hC 11 dX5_hasRoomToCommit_10 rfl ?_
    refine g_cVN hC 14 2 [.int (fI 1), .int (fI 0)] [] (cn_X2_hasRoom l P1 hP1 1 0 _) rfl rfl (tb_H hP1) rfl gw_334 gw_337 gw_60 gw_336 gw_13 (by decide +kernel) rfl ⟨Nat.le_of_ble_eq_true rfl, Nat.le_of_ble_eq_true rfl⟩ (Nat.le_of_ble_eq_true rfl) ⟨Nat.zero_le _, Nat.zero_le _⟩ dX5_hasRoomToCommit_11 rfl (fun v8 => .int (fI v8) :: []) (fun _ => rfl) (fun v8 M9 => ?_)
    exact g_zreturn hC hr hk dX5_hasRoomToCommit_14
theorem cn_X5_hasRoomToCommit (l : Launch) (P0 : Nat) (hP0 : fIsC P0) (P1 : Nat) (hP1 : fIsH P1) (M : fMem) : fMt l vwCl TB yX5_hasRoomToCommit cX5_hasRoomToCommit 4 (some .boolean) 1 22 0 (fun ad => [.ref (ad P0), .ref (ad P1)]) M (dn_X5_hasRoomToCommit P0 P1 M) :=
  fMt.of (by decide +kernel) (fun _ => Nat.le_of_ble_eq_true rfl) (fun p e s m args below meth c D aC ad hC hr hk => wk_X5_hasRoomToCommit hC hr hk P0 hP0 P1 hP1 M)
def dn_X5_commitRefusal_J90 (P1 : Nat) (P2 : Nat) (M : fMem) : fOp :=
  fCl (dn_X5_hasRoomToCommit P1 P2 M) (fun v10 M11 => fEq v10 0 (some ((-7), M11)) (some (0, M11)))
set_option maxRecDepth 100000 in
set_option maxHeartbeats 4000000 in
theorem wk_X5_commitRefusal_J90 {l : Launch} {p : Program} {e : Env} {s : State} {m : MethodId} {args : Array Value} {below : List Frame} {meth : Method} {c : Code} {D : va_G} {aC : Nat → ClassId} {ad : Nat → Nat} (hC : fCx p s m args c vwCl D aC TB ad (fFr ad TB) goodTs cX5_commitRefusal RX5 3) (hr : meth.sig.returnType = some .int) (hk : meth.locks = false) (P1 : Nat) (hP1 : fIsC P1) (P2 : Nat) (hP2 : fIsH P2)  (M : fMem) : GM l p e s m args below meth c D aC ad 3 3 67 0 90 [(0, .ref (ad 0)), (1, .ref (ad P1)), (2, .ref (ad P2))] [] M (dn_X5_commitRefusal_J90 P1 P2 M) := by
  unfold dn_X5_commitRefusal_J90
  refine g_aload_n hC 1 91 rfl dX5_commitRefusal_90 rfl rfl ?_
  refine g_aload_n hC 2 92 rfl dX5_commitRefusal_91 rfl rfl ?_
  refine g_cS hC 95 2 [.ref (ad P1), .ref (ad P2)] [] (cn_X5_hasRoomToCommit l P1 hP1 P2 hP2 _) rfl rfl gw_331 gw_333 gw_59 gw_332 (by decide +kernel) rfl ⟨Nat.le_of_ble_eq_true rfl, Nat.le_of_ble_eq_true rfl⟩ (Nat.le_of_ble_eq_true rfl) ⟨Nat.zero_le _, Nat.zero_le _⟩ dX5_commitRefusal_92 rfl (fun v10 => .int (fI v10) :: []) (fun _ => rfl) (fun v10 M11 => ?_)
  refine g_if_eq hC 102 98 dX5_commitRefusal_95 rfl rfl ?_ ?_
  · refine g_bipush hC 104 dX5_commitRefusal_102 rfl (by decide +kernel) ?_
    exact g_ireturn hC hr hk dX5_commitRefusal_104
  · refine g_iconst hC 99 dX5_commitRefusal_98 rfl ?_
    refine g_goto hC 104 dX5_commitRefusal_99 rfl ?_
    exact g_ireturn hC hr hk dX5_commitRefusal_104
def dn_X5_commitRefusal_J70 (P1 : Nat) (P2 : Nat) (M : fMem) : fOp :=
  fCl (dn_X0_hasText P1 M) (fun v8 M9 => fEq v8 0 (dn_X5_commitRefusal_J90 P1 P2 M9) (fGt M9 P1 2 (fun x12 => fCl (dn_X4_hasMarks x12 M9) (fun v13 M14 => fEq v13 0 (dn_X5_commitRefusal_J90 P1 P2 M14) (some ((-6), M14))))))
set_option maxRecDepth 100000 in
set_option maxHeartbeats 4000000 in
theorem wk_X5_commitRefusal_J70 {l : Launch} {p : Program} {e : Env} {s : State} {m : MethodId} {args : Array Value} {below : List Frame} {meth : Method} {c : Code} {D : va_G} {aC : Nat → ClassId} {ad : Nat → Nat} (hC : fCx p s m args c vwCl D aC TB ad (fFr ad TB) goodTs cX5_commitRefusal RX5 3) (hr : meth.sig.returnType = some .int) (hk : meth.locks = false) (P1 : Nat) (hP1 : fIsC P1) (P2 : Nat) (hP2 : fIsH P2)  (M : fMem) : GM l p e s m args below meth c D aC ad 3 3 67 0 70 [(0, .ref (ad 0)), (1, .ref (ad P1)), (2, .ref (ad P2))] [] M (dn_X5_commitRefusal_J70 P1 P2 M) := by
  unfold dn_X5_commitRefusal_J70
  refine g_aload_n hC 1 71 rfl dX5_commitRefusal_70 rfl rfl ?_
  refine g_cVN hC 74 0 [] [] (cn_X0_hasText l P1 hP1 _) rfl rfl (tb_C hP1) rfl gw_277 gw_280 gw_62 gw_279 gw_3 (by decide +kernel) rfl ⟨Nat.le_of_ble_eq_true rfl, Nat.le_of_ble_eq_true rfl⟩ (Nat.le_of_ble_eq_true rfl) ⟨Nat.zero_le _, Nat.zero_le _⟩ dX5_commitRefusal_71 rfl (fun v8 => .int (fI v8) :: []) (fun _ => rfl) (fun v8 M9 => ?_)
  refine g_if_eq hC 90 77 dX5_commitRefusal_74 rfl rfl ?_ ?_
  · exact wk_X5_commitRefusal_J90 hC hr hk _ hP1 _ hP2 _
  · refine g_aload_n hC 1 78 rfl dX5_commitRefusal_77 rfl rfl ?_
    refine g_getJN hC 81 inX0 rfl 2 (by decide) gw_150 rfl (tb_C hP1) rfl dX5_commitRefusal_78 rfl (fun x12 => ?_)
    refine g_cSN hC 84 1 [.long (fL x12)] [] (cn_X4_hasMarks l x12 _) rfl rfl gw_330 gw_267 gw_66 gw_266 (by decide +kernel) rfl ⟨Nat.le_of_ble_eq_true rfl, Nat.le_of_ble_eq_true rfl⟩ (Nat.le_of_ble_eq_true rfl) ⟨Nat.zero_le _, Nat.zero_le _⟩ dX5_commitRefusal_81 rfl (fun v13 => .int (fI v13) :: []) (fun _ => rfl) (fun v13 M14 => ?_)
    refine g_if_eq hC 90 87 dX5_commitRefusal_84 rfl rfl ?_ ?_
    · exact wk_X5_commitRefusal_J90 hC hr hk _ hP1 _ hP2 _
    · refine g_bipush hC 89 dX5_commitRefusal_87 rfl (by decide +kernel) ?_
      exact g_ireturn hC hr hk dX5_commitRefusal_89
def dn_X5_commitRefusal_J33 (P1 : Nat) (P2 : Nat) (M : fMem) : fOp :=
  fCl (dn_X5_isStale P1 P2 M) (fun v4 M5 => fEq v4 0 (fCl (dn_X0_hasRevision P1 M5) (fun v6 M7 => fEq v6 0 (dn_X5_commitRefusal_J70 P1 P2 M7) (fGt M7 P1 1 (fun x15 => fEq x15 0 (fCl (dn_X5_isModified P1 P2 M7) (fun v16 M17 => fEq v16 0 (some ((-5), M17)) (dn_X5_commitRefusal_J70 P1 P2 M17))) (dn_X5_commitRefusal_J70 P1 P2 M7))))) (some ((-4), M5)))
set_option maxRecDepth 100000 in
set_option maxHeartbeats 4000000 in
theorem wk_X5_commitRefusal_J33 {l : Launch} {p : Program} {e : Env} {s : State} {m : MethodId} {args : Array Value} {below : List Frame} {meth : Method} {c : Code} {D : va_G} {aC : Nat → ClassId} {ad : Nat → Nat} (hC : fCx p s m args c vwCl D aC TB ad (fFr ad TB) goodTs cX5_commitRefusal RX5 3) (hr : meth.sig.returnType = some .int) (hk : meth.locks = false) (P1 : Nat) (hP1 : fIsC P1) (P2 : Nat) (hP2 : fIsH P2)  (M : fMem) : GM l p e s m args below meth c D aC ad 3 3 67 0 33 [(0, .ref (ad 0)), (1, .ref (ad P1)), (2, .ref (ad P2))] [] M (dn_X5_commitRefusal_J33 P1 P2 M) := by
  unfold dn_X5_commitRefusal_J33
  refine g_aload_n hC 0 34 rfl dX5_commitRefusal_33 rfl rfl ?_
  refine g_aload_n hC 1 35 rfl dX5_commitRefusal_34 rfl rfl ?_
  refine g_aload_n hC 2 36 rfl dX5_commitRefusal_35 rfl rfl ?_
  refine g_cV hC 39 2 [.ref (ad P1), .ref (ad P2)] [] (cn_X5_isStale l P1 hP1 P2 hP2 _) rfl rfl tb_RS rfl gw_307 gw_310 gw_59 gw_309 gw_8 (by decide +kernel) rfl ⟨Nat.le_of_ble_eq_true rfl, Nat.le_of_ble_eq_true rfl⟩ (Nat.le_of_ble_eq_true rfl) ⟨Nat.zero_le _, Nat.zero_le _⟩ dX5_commitRefusal_36 rfl (fun v4 => .int (fI v4) :: []) (fun _ => rfl) (fun v4 M5 => ?_)
  refine g_if_eq hC 45 42 dX5_commitRefusal_39 rfl rfl ?_ ?_
  · refine g_aload_n hC 1 46 rfl dX5_commitRefusal_45 rfl rfl ?_
    refine g_cVN hC 49 0 [] [] (cn_X0_hasRevision l P1 hP1 _) rfl rfl (tb_C hP1) rfl gw_287 gw_290 gw_62 gw_289 gw_4 (by decide +kernel) rfl ⟨Nat.le_of_ble_eq_true rfl, Nat.le_of_ble_eq_true rfl⟩ (Nat.le_of_ble_eq_true rfl) ⟨Nat.zero_le _, Nat.zero_le _⟩ dX5_commitRefusal_46 rfl (fun v6 => .int (fI v6) :: []) (fun _ => rfl) (fun v6 M7 => ?_)
    refine g_if_eq hC 70 52 dX5_commitRefusal_49 rfl rfl ?_ ?_
    · exact wk_X5_commitRefusal_J70 hC hr hk _ hP1 _ hP2 _
    · refine g_aload_n hC 1 53 rfl dX5_commitRefusal_52 rfl rfl ?_
      refine g_getIN hC 56 inX0 rfl 1 (by decide) gw_148 rfl (tb_C hP1) rfl dX5_commitRefusal_53 rfl (fun x15 => ?_)
      refine g_if_ne hC 70 59 dX5_commitRefusal_56 rfl rfl ?_ ?_
      · exact wk_X5_commitRefusal_J70 hC hr hk _ hP1 _ hP2 _
      · refine g_aload_n hC 1 60 rfl dX5_commitRefusal_59 rfl rfl ?_
        refine g_aload_n hC 2 61 rfl dX5_commitRefusal_60 rfl rfl ?_
        refine g_cS hC 64 2 [.ref (ad P1), .ref (ad P2)] [] (cn_X5_isModified l P1 hP1 P2 hP2 _) rfl rfl gw_327 gw_329 gw_59 gw_328 (by decide +kernel) rfl ⟨Nat.le_of_ble_eq_true rfl, Nat.le_of_ble_eq_true rfl⟩ (Nat.le_of_ble_eq_true rfl) ⟨Nat.zero_le _, Nat.zero_le _⟩ dX5_commitRefusal_61 rfl (fun v16 => .int (fI v16) :: []) (fun _ => rfl) (fun v16 M17 => ?_)
        refine g_if_ne hC 70 67 dX5_commitRefusal_64 rfl rfl ?_ ?_
        · exact wk_X5_commitRefusal_J70 hC hr hk _ hP1 _ hP2 _
        · refine g_bipush hC 69 dX5_commitRefusal_67 rfl (by decide +kernel) ?_
          exact g_ireturn hC hr hk dX5_commitRefusal_69
  · refine g_bipush hC 44 dX5_commitRefusal_42 rfl (by decide +kernel) ?_
    exact g_ireturn hC hr hk dX5_commitRefusal_44
def dn_X5_commitRefusal (P1 : Nat) (P2 : Nat) (M : fMem) : fOp :=
  fCl (dn_X0_hasEntry P1 M) (fun v1 M2 => fEq v1 0 (some ((-1), M2)) (fGt M2 P1 3 (fun x3 => fEq x3 (-1) (dn_X5_commitRefusal_J33 P1 P2 M2) (fGt M2 P1 3 (fun x18 => fRd M2 59 5 x18 (fun x19 => fEq x19 1 (some ((-3), M2)) (dn_X5_commitRefusal_J33 P1 P2 M2)))))))
set_option maxRecDepth 100000 in
set_option maxHeartbeats 4000000 in
theorem wk_X5_commitRefusal {l : Launch} {p : Program} {e : Env} {s : State} {m : MethodId} {args : Array Value} {below : List Frame} {meth : Method} {c : Code} {D : va_G} {aC : Nat → ClassId} {ad : Nat → Nat} (hC : fCx p s m args c vwCl D aC TB ad (fFr ad TB) goodTs cX5_commitRefusal RX5 3) (hr : meth.sig.returnType = some .int) (hk : meth.locks = false) (P1 : Nat) (hP1 : fIsC P1) (P2 : Nat) (hP2 : fIsH P2) (M : fMem) : GM l p e s m args below meth c D aC ad 3 3 67 0 0 [(0, .ref (ad 0)), (1, .ref (ad P1)), (2, .ref (ad P2))] [] M (dn_X5_commitRefusal P1 P2 M) := by
  unfold dn_X5_commitRefusal
  refine g_aload_n hC 1 1 rfl dX5_commitRefusal_0 rfl rfl ?_
  refine g_cVN hC 4 0 [] [] (cn_X0_hasEntry l P1 hP1 _) rfl rfl (tb_C hP1) rfl gw_253 gw_256 gw_62 gw_255 gw_1 (by decide +kernel) rfl ⟨Nat.le_of_ble_eq_true rfl, Nat.le_of_ble_eq_true rfl⟩ (Nat.le_of_ble_eq_true rfl) ⟨Nat.zero_le _, Nat.zero_le _⟩ dX5_commitRefusal_1 rfl (fun v1 => .int (fI v1) :: []) (fun _ => rfl) (fun v1 M2 => ?_)
  refine g_if_ne hC 9 7 dX5_commitRefusal_4 rfl rfl ?_ ?_
  · refine g_aload_n hC 1 10 rfl dX5_commitRefusal_9 rfl rfl ?_
    refine g_getIN hC 13 inX0 rfl 3 (by decide) gw_152 rfl (tb_C hP1) rfl dX5_commitRefusal_10 rfl (fun x3 => ?_)
    refine g_iconst hC 14 dX5_commitRefusal_13 rfl ?_
    refine g_icmp_eq hC 33 17 dX5_commitRefusal_14 rfl rfl ?_ ?_
    · exact wk_X5_commitRefusal_J33 hC hr hk _ hP1 _ hP2 _
    · refine g_aload_n hC 0 18 rfl dX5_commitRefusal_17 rfl rfl ?_
      refine g_getA hC 21 inX5 rfl 2 (by decide) gw_225 rfl tb_RS rfl dX5_commitRefusal_18 rfl ?_
      refine g_aload_n hC 1 22 rfl dX5_commitRefusal_21 rfl rfl ?_
      refine g_getIN hC 25 inX0 rfl 3 (by decide) gw_152 rfl (tb_C hP1) rfl dX5_commitRefusal_22 rfl (fun x18 => ?_)
      refine g_iald hC 26 tb_TS (by decide) dX5_commitRefusal_25 rfl (fun x19 => ?_)
      refine g_iconst hC 27 dX5_commitRefusal_26 rfl ?_
      refine g_icmp_ne hC 33 30 dX5_commitRefusal_27 rfl rfl ?_ ?_
      · exact wk_X5_commitRefusal_J33 hC hr hk _ hP1 _ hP2 _
      · refine g_bipush hC 32 dX5_commitRefusal_30 rfl (by decide +kernel) ?_
        exact g_ireturn hC hr hk dX5_commitRefusal_32
  · refine g_iconst hC 8 dX5_commitRefusal_7 rfl ?_
    exact g_ireturn hC hr hk dX5_commitRefusal_8
theorem cn_X5_commitRefusal (l : Launch) (P1 : Nat) (hP1 : fIsC P1) (P2 : Nat) (hP2 : fIsH P2) (M : fMem) : fMt l vwCl TB yX5_commitRefusal cX5_commitRefusal 3 (some .int) 3 67 0 (fun ad => [.ref (ad 0), .ref (ad P1), .ref (ad P2)]) M (dn_X5_commitRefusal P1 P2 M) :=
  fMt.of (by decide +kernel) (fun _ => Nat.le_of_ble_eq_true rfl) (fun p e s m args below meth c D aC ad hC hr hk => wk_X5_commitRefusal hC hr hk P1 hP1 P2 hP2 M)
def dn_X5_branchToCommitOn_J61 (P0 : Nat) (P1 : Nat) (M : fMem) : fOp :=
  fGt M P0 3 (fun x6 => fRd M (P1 + 10) 5 x6 (fun x7 => some (x7, M)))
set_option maxRecDepth 100000 in
set_option maxHeartbeats 4000000 in
theorem wk_X5_branchToCommitOn_J61 {l : Launch} {p : Program} {e : Env} {s : State} {m : MethodId} {args : Array Value} {below : List Frame} {meth : Method} {c : Code} {D : va_G} {aC : Nat → ClassId} {ad : Nat → Nat} (hC : fCx p s m args c vwCl D aC TB ad (fFr ad TB) goodTs cX5_branchToCommitOn RX5 2) (hr : meth.sig.returnType = some .int) (hk : meth.locks = false) (P0 : Nat) (hP0 : fIsC P0) (P1 : Nat) (hP1 : fIsH P1)  (M : fMem) : GM l p e s m args below meth c D aC ad 2 2 44 0 61 [(0, .ref (ad P0)), (1, .ref (ad P1))] [] M (dn_X5_branchToCommitOn_J61 P0 P1 M) := by
  unfold dn_X5_branchToCommitOn_J61
  refine g_aload_n hC 1 62 rfl dX5_branchToCommitOn_61 rfl rfl ?_
  refine g_getAN hC 65 inX2 rfl 13 (by decide) gw_105 rfl (tb_H hP1) rfl dX5_branchToCommitOn_62 rfl ?_
  refine g_aload_n hC 0 66 rfl dX5_branchToCommitOn_65 rfl rfl ?_
  refine g_getIN hC 69 inX0 rfl 3 (by decide) gw_152 rfl (tb_C hP0) rfl dX5_branchToCommitOn_66 rfl (fun x6 => ?_)
  refine g_iald hC 70 (tb_H_10 hP1) (by decide) dX5_branchToCommitOn_69 rfl (fun x7 => ?_)
  exact g_ireturn hC hr hk dX5_branchToCommitOn_70
def dn_X5_branchToCommitOn_J30 (P0 : Nat) (P1 : Nat) (M : fMem) : fOp :=
  fGt M P0 3 (fun x4 => fRd M (P1 + 10) 5 x4 (fun x5 => fEq x5 (-1) (fGt M P0 3 (fun x8 => fCl (dn_X2_tip P1 0 M) (fun v9 M10 => fCl (dn_X2_openBranch P1 v9 M10) (fun v11 M12 => fWr M12 (P1 + 10) 5 x8 v11 (fun M13 => dn_X5_branchToCommitOn_J61 P0 P1 M13))))) (dn_X5_branchToCommitOn_J61 P0 P1 M)))
set_option maxRecDepth 100000 in
set_option maxHeartbeats 4000000 in
theorem wk_X5_branchToCommitOn_J30 {l : Launch} {p : Program} {e : Env} {s : State} {m : MethodId} {args : Array Value} {below : List Frame} {meth : Method} {c : Code} {D : va_G} {aC : Nat → ClassId} {ad : Nat → Nat} (hC : fCx p s m args c vwCl D aC TB ad (fFr ad TB) goodTs cX5_branchToCommitOn RX5 2) (hr : meth.sig.returnType = some .int) (hk : meth.locks = false) (P0 : Nat) (hP0 : fIsC P0) (P1 : Nat) (hP1 : fIsH P1)  (M : fMem) : GM l p e s m args below meth c D aC ad 2 2 44 0 30 [(0, .ref (ad P0)), (1, .ref (ad P1))] [] M (dn_X5_branchToCommitOn_J30 P0 P1 M) := by
  unfold dn_X5_branchToCommitOn_J30
  refine g_aload_n hC 1 31 rfl dX5_branchToCommitOn_30 rfl rfl ?_
  refine g_getAN hC 34 inX2 rfl 13 (by decide) gw_105 rfl (tb_H hP1) rfl dX5_branchToCommitOn_31 rfl ?_
  refine g_aload_n hC 0 35 rfl dX5_branchToCommitOn_34 rfl rfl ?_
  refine g_getIN hC 38 inX0 rfl 3 (by decide) gw_152 rfl (tb_C hP0) rfl dX5_branchToCommitOn_35 rfl (fun x4 => ?_)
  refine g_iald hC 39 (tb_H_10 hP1) (by decide) dX5_branchToCommitOn_38 rfl (fun x5 => ?_)
  refine g_iconst hC 40 dX5_branchToCommitOn_39 rfl ?_
  refine g_icmp_ne hC 61 43 dX5_branchToCommitOn_40 rfl rfl ?_ ?_
  · exact wk_X5_branchToCommitOn_J61 hC hr hk _ hP0 _ hP1 _
  · refine g_aload_n hC 1 44 rfl dX5_branchToCommitOn_43 rfl rfl ?_
    refine g_getAN hC 47 inX2 rfl 13 (by decide) gw_105 rfl (tb_H hP1) rfl dX5_branchToCommitOn_44 rfl ?_
    refine g_aload_n hC 0 48 rfl dX5_branchToCommitOn_47 rfl rfl ?_
    refine g_getIN hC 51 inX0 rfl 3 (by decide) gw_152 rfl (tb_C hP0) rfl dX5_branchToCommitOn_48 rfl (fun x8 => ?_)
    refine g_aload_n hC 1 52 rfl dX5_branchToCommitOn_51 rfl rfl ?_
    refine g_aload_n hC 1 53 rfl dX5_branchToCommitOn_52 rfl rfl ?_
    refine g_iconst hC 54 dX5_branchToCommitOn_53 rfl ?_
    refine g_cVN hC 57 1 [.int (fI 0)] [.ref (ad P1), .int (fI x8), .ref (ad (P1 + 10))] (cn_X2_tip l P1 hP1 0 _) rfl rfl (tb_H hP1) rfl gw_319 gw_322 gw_60 gw_321 gw_11 (by decide +kernel) rfl ⟨Nat.le_of_ble_eq_true rfl, Nat.le_of_ble_eq_true rfl⟩ (Nat.le_of_ble_eq_true rfl) ⟨Nat.zero_le _, Nat.zero_le _⟩ dX5_branchToCommitOn_54 rfl (fun v9 => .int (fI v9) :: [.ref (ad P1), .int (fI x8), .ref (ad (P1 + 10))]) (fun _ => rfl) (fun v9 M10 => ?_)
    refine g_cVN hC 60 1 [.int (fI v9)] [.int (fI x8), .ref (ad (P1 + 10))] (cn_X2_openBranch l P1 hP1 v9 _) rfl rfl (tb_H hP1) rfl gw_348 gw_351 gw_60 gw_350 gw_15 (by decide +kernel) rfl ⟨Nat.le_of_ble_eq_true rfl, Nat.le_of_ble_eq_true rfl⟩ (Nat.le_of_ble_eq_true rfl) ⟨Nat.zero_le _, Nat.zero_le _⟩ dX5_branchToCommitOn_57 rfl (fun v11 => .int (fI v11) :: [.int (fI x8), .ref (ad (P1 + 10))]) (fun _ => rfl) (fun v11 M12 => ?_)
    refine g_iast hC 61 (tb_H_10 hP1) (by decide) dX5_branchToCommitOn_60 rfl (fun M13 => ?_)
    exact wk_X5_branchToCommitOn_J61 hC hr hk _ hP0 _ hP1 _
def dn_X5_branchToCommitOn (P0 : Nat) (P1 : Nat) (M : fMem) : fOp :=
  fGt M P0 3 (fun x1 => fEq x1 (-1) (fPt M P1 12 0 (fun M16 => some (0, M16))) (fCl (dn_X2_isThere P1 M) (fun v2 M3 => fEq v2 0 (fCl (dn_X2_append P1 0 0 1 M3) (fun v14 M15 => dn_X5_branchToCommitOn_J30 P0 P1 M15)) (dn_X5_branchToCommitOn_J30 P0 P1 M3))))
set_option maxRecDepth 100000 in
set_option maxHeartbeats 4000000 in
theorem wk_X5_branchToCommitOn {l : Launch} {p : Program} {e : Env} {s : State} {m : MethodId} {args : Array Value} {below : List Frame} {meth : Method} {c : Code} {D : va_G} {aC : Nat → ClassId} {ad : Nat → Nat} (hC : fCx p s m args c vwCl D aC TB ad (fFr ad TB) goodTs cX5_branchToCommitOn RX5 2) (hr : meth.sig.returnType = some .int) (hk : meth.locks = false) (P0 : Nat) (hP0 : fIsC P0) (P1 : Nat) (hP1 : fIsH P1) (M : fMem) : GM l p e s m args below meth c D aC ad 2 2 44 0 0 [(0, .ref (ad P0)), (1, .ref (ad P1))] [] M (dn_X5_branchToCommitOn P0 P1 M) := by
  unfold dn_X5_branchToCommitOn
  refine g_aload_n hC 0 1 rfl dX5_branchToCommitOn_0 rfl rfl ?_
  refine g_getIN hC 4 inX0 rfl 3 (by decide) gw_152 rfl (tb_C hP0) rfl dX5_branchToCommitOn_1 rfl (fun x1 => ?_)
  refine g_iconst hC 5 dX5_branchToCommitOn_4 rfl ?_
  refine g_icmp_ne hC 15 8 dX5_branchToCommitOn_5 rfl rfl ?_ ?_
  · refine g_aload_n hC 1 16 rfl dX5_branchToCommitOn_15 rfl rfl ?_
    refine g_cVN hC 19 0 [] [] (cn_X2_isThere l P1 hP1 _) rfl rfl (tb_H hP1) rfl gw_315 gw_318 gw_60 gw_317 gw_10 (by decide +kernel) rfl ⟨Nat.le_of_ble_eq_true rfl, Nat.le_of_ble_eq_true rfl⟩ (Nat.le_of_ble_eq_true rfl) ⟨Nat.zero_le _, Nat.zero_le _⟩ dX5_branchToCommitOn_16 rfl (fun v2 => .int (fI v2) :: []) (fun _ => rfl) (fun v2 M3 => ?_)
    refine g_if_ne hC 30 22 dX5_branchToCommitOn_19 rfl rfl ?_ ?_
    · exact wk_X5_branchToCommitOn_J30 hC hr hk _ hP0 _ hP1 _
    · refine g_aload_n hC 1 23 rfl dX5_branchToCommitOn_22 rfl rfl ?_
      refine g_iconst hC 24 dX5_branchToCommitOn_23 rfl ?_
      refine g_lconst hC 0 25 dX5_branchToCommitOn_24 rfl (by decide +kernel) ?_
      refine g_iconst hC 26 dX5_branchToCommitOn_25 rfl ?_
      refine g_cVN hC 29 3 [.int (fI 0), .long (fL 0), .int (fI 1)] [] (cn_X2_append l P1 hP1 0 0 1 _) rfl rfl (tb_H hP1) rfl gw_344 gw_347 gw_60 gw_346 gw_14 (by decide +kernel) rfl ⟨Nat.le_of_ble_eq_true rfl, Nat.le_of_ble_eq_true rfl⟩ (Nat.le_of_ble_eq_true rfl) ⟨Nat.zero_le _, Nat.zero_le _⟩ dX5_branchToCommitOn_26 rfl (fun v14 => .int (fI v14) :: []) (fun _ => rfl) (fun v14 M15 => ?_)
      refine g_pop hC 30 dX5_branchToCommitOn_29 rfl rfl ?_
      exact wk_X5_branchToCommitOn_J30 hC hr hk _ hP0 _ hP1 _
  · refine g_aload_n hC 1 9 rfl dX5_branchToCommitOn_8 rfl rfl ?_
    refine g_iconst hC 10 dX5_branchToCommitOn_9 rfl ?_
    refine g_putIN hC 13 tyX2 tyX2_ok nmX2 inX2 rfl 12 (by decide) gw_103 rfl rfl (by decide +kernel) (tb_H hP1) rfl dX5_branchToCommitOn_10 rfl (fun M16 => ?_)
    refine g_iconst hC 14 dX5_branchToCommitOn_13 rfl ?_
    exact g_ireturn hC hr hk dX5_branchToCommitOn_14
theorem cn_X5_branchToCommitOn (l : Launch) (P0 : Nat) (hP0 : fIsC P0) (P1 : Nat) (hP1 : fIsH P1) (M : fMem) : fMt l vwCl TB yX5_branchToCommitOn cX5_branchToCommitOn 2 (some .int) 2 44 0 (fun ad => [.ref (ad P0), .ref (ad P1)]) M (dn_X5_branchToCommitOn P0 P1 M) :=
  fMt.of (by decide +kernel) (fun _ => Nat.le_of_ble_eq_true rfl) (fun p e s m args below meth c D aC ad hC hr hk => wk_X5_branchToCommitOn hC hr hk P0 hP0 P1 hP1 M)
def dn_X5_commitGone (P0 : Nat) (P1 : Nat) (M : fMem) : fOp :=
  fCl (dn_X5_branchToCommitOn P0 P1 M) (fun v1 M2 => fGt M2 P0 0 (fun x3 => fRd M2 (P1 + 1) 24 x3 (fun x4 => fCl (dn_X2_append P1 v1 x4 1 M2) (fun v5 M6 => fCl (dn_X0_drop P0 M6) (fun _ M8 => some (v5, M8))))))
set_option maxRecDepth 100000 in
set_option maxHeartbeats 4000000 in
theorem wk_X5_commitGone {l : Launch} {p : Program} {e : Env} {s : State} {m : MethodId} {args : Array Value} {below : List Frame} {meth : Method} {c : Code} {D : va_G} {aC : Nat → ClassId} {ad : Nat → Nat} (hC : fCx p s m args c vwCl D aC TB ad (fFr ad TB) goodTs cX5_commitGone RX5 4) (hr : meth.sig.returnType = some .int) (hk : meth.locks = false) (P0 : Nat) (hP0 : fIsC P0) (P1 : Nat) (hP1 : fIsH P1) (M : fMem) : GM l p e s m args below meth c D aC ad 4 3 65 0 0 [(0, .ref (ad P0)), (1, .ref (ad P1))] [] M (dn_X5_commitGone P0 P1 M) := by
  unfold dn_X5_commitGone
  refine g_aload_n hC 0 1 rfl dX5_commitGone_0 rfl rfl ?_
  refine g_aload_n hC 1 2 rfl dX5_commitGone_1 rfl rfl ?_
  refine g_cS hC 5 2 [.ref (ad P0), .ref (ad P1)] [] (cn_X5_branchToCommitOn l P0 hP0 P1 hP1 _) rfl rfl gw_341 gw_343 gw_59 gw_342 (by decide +kernel) rfl ⟨Nat.le_of_ble_eq_true rfl, Nat.le_of_ble_eq_true rfl⟩ (Nat.le_of_ble_eq_true rfl) ⟨Nat.zero_le _, Nat.zero_le _⟩ dX5_commitGone_2 rfl (fun v1 => .int (fI v1) :: []) (fun _ => rfl) (fun v1 M2 => ?_)
  refine g_istore_n hC 6 [(2, .int (fI v1)), (0, .ref (ad P0)), (1, .ref (ad P1))] dX5_commitGone_5 rfl (by decide) rfl rfl ?_
  refine g_aload_n hC 2 7 rfl dX5_commitGone_6 rfl rfl ?_
  refine g_iload_n hC 0 8 rfl dX5_commitGone_7 rfl rfl ?_
  refine g_aload_n hC 2 9 rfl dX5_commitGone_8 rfl rfl ?_
  refine g_getAN hC 12 inX2 rfl 0 (by decide) gw_87 rfl (tb_H hP1) rfl dX5_commitGone_9 rfl ?_
  refine g_aload_n hC 1 13 rfl dX5_commitGone_12 rfl rfl ?_
  refine g_getIN hC 16 inX0 rfl 0 (by decide) gw_146 rfl (tb_C hP0) rfl dX5_commitGone_13 rfl (fun x3 => ?_)
  refine g_lald hC 17 (tb_H_1 hP1) (by decide) dX5_commitGone_16 rfl (fun x4 => ?_)
  refine g_iconst hC 18 dX5_commitGone_17 rfl ?_
  refine g_cVN hC 21 3 [.int (fI v1), .long (fL x4), .int (fI 1)] [] (cn_X2_append l P1 hP1 v1 x4 1 _) rfl rfl (tb_H hP1) rfl gw_344 gw_347 gw_60 gw_346 gw_14 (by decide +kernel) rfl ⟨Nat.le_of_ble_eq_true rfl, Nat.le_of_ble_eq_true rfl⟩ (Nat.le_of_ble_eq_true rfl) ⟨Nat.zero_le _, Nat.zero_le _⟩ dX5_commitGone_18 rfl (fun v5 => .int (fI v5) :: []) (fun _ => rfl) (fun v5 M6 => ?_)
  refine g_istore_n hC 22 [(3, .int (fI v5)), (2, .int (fI v1)), (0, .ref (ad P0)), (1, .ref (ad P1))] dX5_commitGone_21 rfl (by decide) rfl rfl ?_
  refine g_aload_n hC 2 23 rfl dX5_commitGone_22 rfl rfl ?_
  refine g_cVN hC 26 0 [] [] (cn_X0_drop l P0 hP0 _) rfl rfl (tb_C hP0) rfl gw_295 gw_298 gw_62 gw_297 gw_6 (by decide +kernel) rfl ⟨Nat.le_of_ble_eq_true rfl, Nat.le_of_ble_eq_true rfl⟩ (Nat.le_of_ble_eq_true rfl) ⟨Nat.zero_le _, Nat.zero_le _⟩ dX5_commitGone_23 rfl (fun _ => []) (fun _ => rfl) (fun _ M8 => ?_)
  refine g_iload_n hC 0 27 rfl dX5_commitGone_26 rfl rfl ?_
  exact g_ireturn hC hr hk dX5_commitGone_27
theorem cn_X5_commitGone (l : Launch) (P0 : Nat) (hP0 : fIsC P0) (P1 : Nat) (hP1 : fIsH P1) (M : fMem) : fMt l vwCl TB yX5_commitGone cX5_commitGone 4 (some .int) 3 65 0 (fun ad => [.ref (ad P0), .ref (ad P1)]) M (dn_X5_commitGone P0 P1 M) :=
  fMt.of (by decide +kernel) (fun _ => Nat.le_of_ble_eq_true rfl) (fun p e s m args below meth c D aC ad hC hr hk => wk_X5_commitGone hC hr hk P0 hP0 P1 hP1 M)
def dn_X5_commitText (P0 : Nat) (P1 : Nat) (M : fMem) : fOp :=
  fCl (dn_X5_branchToCommitOn P0 P1 M) (fun v1 M2 => fGt M2 P0 2 (fun x3 => fCl (dn_X2_append P1 v1 x3 0 M2) (fun v4 M5 => fGt M5 P0 2 (fun x6 => fCl (dn_X0_hold P0 v4 x6 M5) (fun _ M8 => some (v4, M8))))))
set_option maxRecDepth 100000 in
set_option maxHeartbeats 4000000 in
theorem wk_X5_commitText {l : Launch} {p : Program} {e : Env} {s : State} {m : MethodId} {args : Array Value} {below : List Frame} {meth : Method} {c : Code} {D : va_G} {aC : Nat → ClassId} {ad : Nat → Nat} (hC : fCx p s m args c vwCl D aC TB ad (fFr ad TB) goodTs cX5_commitText RX5 4) (hr : meth.sig.returnType = some .int) (hk : meth.locks = false) (P0 : Nat) (hP0 : fIsC P0) (P1 : Nat) (hP1 : fIsH P1) (M : fMem) : GM l p e s m args below meth c D aC ad 4 3 65 0 0 [(0, .ref (ad P0)), (1, .ref (ad P1))] [] M (dn_X5_commitText P0 P1 M) := by
  unfold dn_X5_commitText
  refine g_aload_n hC 0 1 rfl dX5_commitText_0 rfl rfl ?_
  refine g_aload_n hC 1 2 rfl dX5_commitText_1 rfl rfl ?_
  refine g_cS hC 5 2 [.ref (ad P0), .ref (ad P1)] [] (cn_X5_branchToCommitOn l P0 hP0 P1 hP1 _) rfl rfl gw_341 gw_343 gw_59 gw_342 (by decide +kernel) rfl ⟨Nat.le_of_ble_eq_true rfl, Nat.le_of_ble_eq_true rfl⟩ (Nat.le_of_ble_eq_true rfl) ⟨Nat.zero_le _, Nat.zero_le _⟩ dX5_commitText_2 rfl (fun v1 => .int (fI v1) :: []) (fun _ => rfl) (fun v1 M2 => ?_)
  refine g_istore_n hC 6 [(2, .int (fI v1)), (0, .ref (ad P0)), (1, .ref (ad P1))] dX5_commitText_5 rfl (by decide) rfl rfl ?_
  refine g_aload_n hC 2 7 rfl dX5_commitText_6 rfl rfl ?_
  refine g_iload_n hC 0 8 rfl dX5_commitText_7 rfl rfl ?_
  refine g_aload_n hC 1 9 rfl dX5_commitText_8 rfl rfl ?_
  refine g_getJN hC 12 inX0 rfl 2 (by decide) gw_150 rfl (tb_C hP0) rfl dX5_commitText_9 rfl (fun x3 => ?_)
  refine g_iconst hC 13 dX5_commitText_12 rfl ?_
  refine g_cVN hC 16 3 [.int (fI v1), .long (fL x3), .int (fI 0)] [] (cn_X2_append l P1 hP1 v1 x3 0 _) rfl rfl (tb_H hP1) rfl gw_344 gw_347 gw_60 gw_346 gw_14 (by decide +kernel) rfl ⟨Nat.le_of_ble_eq_true rfl, Nat.le_of_ble_eq_true rfl⟩ (Nat.le_of_ble_eq_true rfl) ⟨Nat.zero_le _, Nat.zero_le _⟩ dX5_commitText_13 rfl (fun v4 => .int (fI v4) :: []) (fun _ => rfl) (fun v4 M5 => ?_)
  refine g_istore_n hC 17 [(3, .int (fI v4)), (2, .int (fI v1)), (0, .ref (ad P0)), (1, .ref (ad P1))] dX5_commitText_16 rfl (by decide) rfl rfl ?_
  refine g_aload_n hC 2 18 rfl dX5_commitText_17 rfl rfl ?_
  refine g_iload_n hC 0 19 rfl dX5_commitText_18 rfl rfl ?_
  refine g_aload_n hC 2 20 rfl dX5_commitText_19 rfl rfl ?_
  refine g_getJN hC 23 inX0 rfl 2 (by decide) gw_150 rfl (tb_C hP0) rfl dX5_commitText_20 rfl (fun x6 => ?_)
  refine g_cVN hC 26 2 [.int (fI v4), .long (fL x6)] [] (cn_X0_hold l P0 hP0 v4 x6 _) rfl rfl (tb_C hP0) rfl gw_269 gw_272 gw_62 gw_271 gw_2 (by decide +kernel) rfl ⟨Nat.le_of_ble_eq_true rfl, Nat.le_of_ble_eq_true rfl⟩ (Nat.le_of_ble_eq_true rfl) ⟨Nat.zero_le _, Nat.zero_le _⟩ dX5_commitText_23 rfl (fun _ => []) (fun _ => rfl) (fun _ M8 => ?_)
  refine g_iload_n hC 0 27 rfl dX5_commitText_26 rfl rfl ?_
  exact g_ireturn hC hr hk dX5_commitText_27
theorem cn_X5_commitText (l : Launch) (P0 : Nat) (hP0 : fIsC P0) (P1 : Nat) (hP1 : fIsH P1) (M : fMem) : fMt l vwCl TB yX5_commitText cX5_commitText 4 (some .int) 3 65 0 (fun ad => [.ref (ad P0), .ref (ad P1)]) M (dn_X5_commitText P0 P1 M) :=
  fMt.of (by decide +kernel) (fun _ => Nat.le_of_ble_eq_true rfl) (fun p e s m args below meth c D aC ad hC hr hk => wk_X5_commitText hC hr hk P0 hP0 P1 hP1 M)
def dn_X5_commit (a1 : Int) (a2 : Int) (M : fMem) : fOp :=
  fCl (dn_X5_isClient a1 M) (fun v1 M2 => fEq v1 0 (some ((-1), M2)) (fCl (dn_X5_isFile a2 M2) (fun v3 M4 => fEq v3 0 (some ((-1), M4)) (fCl (dn_X5_copyOf a1 a2 M4) (fun v5 M6 => fCk v5 (fun P7 => fIx 4 2 11 a2 (fun P8 => fCl (dn_X5_commitRefusal P7 P8 M6) (fun v9 M10 => fEq v9 0 (fGt M10 P7 1 (fun x11 => fEq x11 0 (fCl (dn_X5_commitText P7 P8 M10) (fun v12 M13 => some (v12, M13))) (fCl (dn_X5_commitGone P7 P8 M10) (fun v14 M15 => some (v14, M15))))) (some (v9, M10))))))))))
set_option maxRecDepth 100000 in
set_option maxHeartbeats 4000000 in
theorem wk_X5_commit {l : Launch} {p : Program} {e : Env} {s : State} {m : MethodId} {args : Array Value} {below : List Frame} {meth : Method} {c : Code} {D : va_G} {aC : Nat → ClassId} {ad : Nat → Nat} (hC : fCx p s m args c vwCl D aC TB ad (fFr ad TB) goodTs cX5_commit RX5 6) (hr : meth.sig.returnType = some .int) (hk : meth.locks = false) (a1 : Int) (a2 : Int) (M : fMem) : GM l p e s m args below meth c D aC ad 6 4 89 0 0 [(0, .ref (ad 0)), (1, .int (fI a1)), (2, .int (fI a2))] [] M (dn_X5_commit a1 a2 M) := by
  unfold dn_X5_commit
  refine g_iload_n hC 1 1 rfl dX5_commit_0 rfl rfl ?_
  refine g_cS hC 4 1 [.int (fI a1)] [] (cn_X5_isClient l a1 _) rfl rfl gw_243 gw_245 gw_59 gw_244 (by decide +kernel) rfl ⟨Nat.le_of_ble_eq_true rfl, Nat.le_of_ble_eq_true rfl⟩ (Nat.le_of_ble_eq_true rfl) ⟨Nat.zero_le _, Nat.zero_le _⟩ dX5_commit_1 rfl (fun v1 => .int (fI v1) :: []) (fun _ => rfl) (fun v1 M2 => ?_)
  refine g_if_eq hC 14 7 dX5_commit_4 rfl rfl ?_ ?_
  · refine g_iconst hC 15 dX5_commit_14 rfl ?_
    exact g_ireturn hC hr hk dX5_commit_15
  · refine g_iload_n hC 2 8 rfl dX5_commit_7 rfl rfl ?_
    refine g_cS hC 11 1 [.int (fI a2)] [] (cn_X5_isFile l a2 _) rfl rfl gw_246 gw_248 gw_59 gw_247 (by decide +kernel) rfl ⟨Nat.le_of_ble_eq_true rfl, Nat.le_of_ble_eq_true rfl⟩ (Nat.le_of_ble_eq_true rfl) ⟨Nat.zero_le _, Nat.zero_le _⟩ dX5_commit_8 rfl (fun v3 => .int (fI v3) :: []) (fun _ => rfl) (fun v3 M4 => ?_)
    refine g_if_ne hC 16 14 dX5_commit_11 rfl rfl ?_ ?_
    · refine g_aload_n hC 0 17 rfl dX5_commit_16 rfl rfl ?_
      refine g_iload_n hC 1 18 rfl dX5_commit_17 rfl rfl ?_
      refine g_iload_n hC 2 19 rfl dX5_commit_18 rfl rfl ?_
      refine g_cV hC 22 2 [.int (fI a1), .int (fI a2)] [] (cn_X5_copyOf l a1 a2 _) rfl rfl tb_RS rfl gw_249 gw_252 gw_59 gw_251 gw_0 (by decide +kernel) rfl ⟨Nat.le_of_ble_eq_true rfl, Nat.le_of_ble_eq_true rfl⟩ (Nat.le_of_ble_eq_true rfl) ⟨Nat.zero_le _, Nat.zero_le _⟩ dX5_commit_19 rfl (fun v5 => .ref (ad v5.toNat) :: []) (fun _ => rfl) (fun v5 M6 => ?_)
      refine g_ck (fun P7 hP7 => ?_)
      refine g_astore_n hC 23 [(3, .ref (ad P7)), (0, .ref (ad 0)), (1, .int (fI a1)), (2, .int (fI a2))] dX5_commit_22 rfl (by decide) rfl rfl ?_
      refine g_aload_n hC 1 24 rfl dX5_commit_23 rfl rfl ?_
      refine g_getA hC 27 inX5 rfl 0 (by decide) gw_223 rfl tb_RS rfl dX5_commit_24 rfl ?_
      refine g_iload_n hC 3 28 rfl dX5_commit_27 rfl rfl ?_
      refine g_aald hC 4 2 11 29 tb_HA rfl tb_HA_q rfl (by decide) dX5_commit_28 rfl (fun P8 hP8 => ?_)
      replace hP8 := fIsH_of hP8
      refine g_astore hC 31 [(4, .ref (ad P8)), (3, .ref (ad P7)), (0, .ref (ad 0)), (1, .int (fI a1)), (2, .int (fI a2))] dX5_commit_29 (by decide) rfl rfl ?_
      refine g_aload_n hC 2 32 rfl dX5_commit_31 rfl rfl ?_
      refine g_aload_n hC 1 33 rfl dX5_commit_32 rfl rfl ?_
      refine g_aload hC 0 35 rfl dX5_commit_33 rfl ?_
      refine g_cV hC 38 2 [.ref (ad P7), .ref (ad P8)] [] (cn_X5_commitRefusal l P7 hP7 P8 hP8 _) rfl rfl tb_RS rfl gw_303 gw_306 gw_59 gw_305 gw_7 (by decide +kernel) rfl ⟨Nat.le_of_ble_eq_true rfl, Nat.le_of_ble_eq_true rfl⟩ (Nat.le_of_ble_eq_true rfl) ⟨Nat.zero_le _, Nat.zero_le _⟩ dX5_commit_35 rfl (fun v9 => .int (fI v9) :: []) (fun _ => rfl) (fun v9 M10 => ?_)
      refine g_istore hC 40 [(5, .int (fI v9)), (4, .ref (ad P8)), (3, .ref (ad P7)), (0, .ref (ad 0)), (1, .int (fI a1)), (2, .int (fI a2))] dX5_commit_38 (by decide) rfl rfl ?_
      refine g_iload hC 0 42 rfl dX5_commit_40 rfl ?_
      refine g_if_eq hC 48 45 dX5_commit_42 rfl rfl ?_ ?_
      · refine g_aload_n hC 2 49 rfl dX5_commit_48 rfl rfl ?_
        refine g_getIN hC 52 inX0 rfl 1 (by decide) gw_148 rfl (tb_C hP7) rfl dX5_commit_49 rfl (fun x11 => ?_)
        refine g_if_eq hC 64 55 dX5_commit_52 rfl rfl ?_ ?_
        · refine g_aload_n hC 2 65 rfl dX5_commit_64 rfl rfl ?_
          refine g_aload hC 1 67 rfl dX5_commit_65 rfl ?_
          refine g_cS hC 70 2 [.ref (ad P7), .ref (ad P8)] [] (cn_X5_commitText l P7 hP7 P8 hP8 _) rfl rfl gw_360 gw_362 gw_59 gw_361 (by decide +kernel) rfl ⟨Nat.le_of_ble_eq_true rfl, Nat.le_of_ble_eq_true rfl⟩ (Nat.le_of_ble_eq_true rfl) ⟨Nat.zero_le _, Nat.zero_le _⟩ dX5_commit_67 rfl (fun v12 => .int (fI v12) :: []) (fun _ => rfl) (fun v12 M13 => ?_)
          exact g_ireturn hC hr hk dX5_commit_70
        · refine g_aload_n hC 2 56 rfl dX5_commit_55 rfl rfl ?_
          refine g_aload hC 1 58 rfl dX5_commit_56 rfl ?_
          refine g_cS hC 61 2 [.ref (ad P7), .ref (ad P8)] [] (cn_X5_commitGone l P7 hP7 P8 hP8 _) rfl rfl gw_338 gw_340 gw_59 gw_339 (by decide +kernel) rfl ⟨Nat.le_of_ble_eq_true rfl, Nat.le_of_ble_eq_true rfl⟩ (Nat.le_of_ble_eq_true rfl) ⟨Nat.zero_le _, Nat.zero_le _⟩ dX5_commit_58 rfl (fun v14 => .int (fI v14) :: []) (fun _ => rfl) (fun v14 M15 => ?_)
          refine g_goto hC 70 dX5_commit_61 rfl ?_
          exact g_ireturn hC hr hk dX5_commit_70
      · refine g_iload hC 0 47 rfl dX5_commit_45 rfl ?_
        exact g_ireturn hC hr hk dX5_commit_47
    · refine g_iconst hC 15 dX5_commit_14 rfl ?_
      exact g_ireturn hC hr hk dX5_commit_15
theorem cn_X5_commit (l : Launch) (a1 : Int) (a2 : Int) (M : fMem) : fMt l vwCl TB yX5_commit cX5_commit 6 (some .int) 4 89 0 (fun ad => [.ref (ad 0), .int (fI a1), .int (fI a2)]) M (dn_X5_commit a1 a2 M) :=
  fMt.of (by decide +kernel) (fun _ => Nat.le_of_ble_eq_true rfl) (fun p e s m args below meth c D aC ad hC hr hk => wk_X5_commit hC hr hk a1 a2 M)
def dn_X5_isTag (a0 : Int) (M : fMem) : fOp :=
  fLt a0 0 (fRz 0 M) (fLe 5 a0 (fRz 0 M) (fRz 1 M))
set_option maxRecDepth 100000 in
set_option maxHeartbeats 4000000 in
theorem wk_X5_isTag {l : Launch} {p : Program} {e : Env} {s : State} {m : MethodId} {args : Array Value} {below : List Frame} {meth : Method} {c : Code} {D : va_G} {aC : Nat → ClassId} {ad : Nat → Nat} (hC : fCx p s m args c vwCl D aC TB ad (fFr ad TB) goodTs cX5_isTag RX5 1) (hr : meth.sig.returnType = some .boolean) (hk : meth.locks = false) (a0 : Int) (M : fMem) : GM l p e s m args below meth c D aC ad 1 0 0 0 0 [(0, .int (fI a0))] [] M (dn_X5_isTag a0 M) := by
  unfold dn_X5_isTag
  refine g_iload_n hC 0 1 rfl dX5_isTag_0 rfl rfl ?_
  refine g_if_lt hC 13 4 dX5_isTag_1 rfl rfl ?_ ?_
  · refine g_iconst hC 14 dX5_isTag_13 rfl ?_
    exact g_zreturn hC hr hk dX5_isTag_14
  · refine g_iload_n hC 0 5 rfl dX5_isTag_4 rfl rfl ?_
    refine g_iconst hC 6 dX5_isTag_5 rfl ?_
    refine g_icmp_ge hC 13 9 dX5_isTag_6 rfl rfl ?_ ?_
    · refine g_iconst hC 14 dX5_isTag_13 rfl ?_
      exact g_zreturn hC hr hk dX5_isTag_14
    · refine g_iconst hC 10 dX5_isTag_9 rfl ?_
      refine g_goto hC 14 dX5_isTag_10 rfl ?_
      exact g_zreturn hC hr hk dX5_isTag_14
theorem cn_X5_isTag (l : Launch) (a0 : Int) (M : fMem) : fMt l vwCl TB yX5_isTag cX5_isTag 1 (some .boolean) 0 0 0 (fun ad => [.int (fI a0)]) M (dn_X5_isTag a0 M) :=
  fMt.of (by decide +kernel) (fun _ => Nat.le_of_ble_eq_true rfl) (fun p e s m args below meth c D aC ad hC hr hk => wk_X5_isTag hC hr hk a0 M)
def dn_X5_isStickyWish_J26  (a1 : Int) (M : fMem) : fOp :=
  fRz 1 M
set_option maxRecDepth 100000 in
set_option maxHeartbeats 4000000 in
theorem wk_X5_isStickyWish_J26 {l : Launch} {p : Program} {e : Env} {s : State} {m : MethodId} {args : Array Value} {below : List Frame} {meth : Method} {c : Code} {D : va_G} {aC : Nat → ClassId} {ad : Nat → Nat} (hC : fCx p s m args c vwCl D aC TB ad (fFr ad TB) goodTs cX5_isStickyWish RX5 2) (hr : meth.sig.returnType = some .boolean) (hk : meth.locks = false) (a1 : Int)  (M : fMem) : GM l p e s m args below meth c D aC ad 2 1 20 0 26 [(0, .ref (ad 0)), (1, .int (fI a1))] [] M (dn_X5_isStickyWish_J26 a1 M) := by
  unfold dn_X5_isStickyWish_J26
  refine g_iconst hC 27 dX5_isStickyWish_26 rfl ?_
  refine g_goto hC 31 dX5_isStickyWish_27 rfl ?_
  exact g_zreturn hC hr hk dX5_isStickyWish_31
def dn_X5_isStickyWish (a1 : Int) (M : fMem) : fOp :=
  fEq a1 (-1) (dn_X5_isStickyWish_J26 a1 M) (fEq a1 5 (dn_X5_isStickyWish_J26 a1 M) (fCl (dn_X5_isTag a1 M) (fun v1 M2 => fEq v1 0 (fRz 0 M2) (fRd M2 59 5 a1 (fun x3 => fEq x3 0 (fRz 0 M2) (dn_X5_isStickyWish_J26 a1 M2))))))
set_option maxRecDepth 100000 in
set_option maxHeartbeats 4000000 in
theorem wk_X5_isStickyWish {l : Launch} {p : Program} {e : Env} {s : State} {m : MethodId} {args : Array Value} {below : List Frame} {meth : Method} {c : Code} {D : va_G} {aC : Nat → ClassId} {ad : Nat → Nat} (hC : fCx p s m args c vwCl D aC TB ad (fFr ad TB) goodTs cX5_isStickyWish RX5 2) (hr : meth.sig.returnType = some .boolean) (hk : meth.locks = false) (a1 : Int) (M : fMem) : GM l p e s m args below meth c D aC ad 2 1 20 0 0 [(0, .ref (ad 0)), (1, .int (fI a1))] [] M (dn_X5_isStickyWish a1 M) := by
  unfold dn_X5_isStickyWish
  refine g_iload_n hC 1 1 rfl dX5_isStickyWish_0 rfl rfl ?_
  refine g_iconst hC 2 dX5_isStickyWish_1 rfl ?_
  refine g_icmp_eq hC 26 5 dX5_isStickyWish_2 rfl rfl ?_ ?_
  · exact wk_X5_isStickyWish_J26 hC hr hk _ _
  · refine g_iload_n hC 1 6 rfl dX5_isStickyWish_5 rfl rfl ?_
    refine g_iconst hC 7 dX5_isStickyWish_6 rfl ?_
    refine g_icmp_eq hC 26 10 dX5_isStickyWish_7 rfl rfl ?_ ?_
    · exact wk_X5_isStickyWish_J26 hC hr hk _ _
    · refine g_iload_n hC 1 11 rfl dX5_isStickyWish_10 rfl rfl ?_
      refine g_cS hC 14 1 [.int (fI a1)] [] (cn_X5_isTag l a1 _) rfl rfl gw_371 gw_373 gw_59 gw_372 (by decide +kernel) rfl ⟨Nat.le_of_ble_eq_true rfl, Nat.le_of_ble_eq_true rfl⟩ (Nat.le_of_ble_eq_true rfl) ⟨Nat.zero_le _, Nat.zero_le _⟩ dX5_isStickyWish_11 rfl (fun v1 => .int (fI v1) :: []) (fun _ => rfl) (fun v1 M2 => ?_)
      refine g_if_eq hC 30 17 dX5_isStickyWish_14 rfl rfl ?_ ?_
      · refine g_iconst hC 31 dX5_isStickyWish_30 rfl ?_
        exact g_zreturn hC hr hk dX5_isStickyWish_31
      · refine g_aload_n hC 0 18 rfl dX5_isStickyWish_17 rfl rfl ?_
        refine g_getA hC 21 inX5 rfl 2 (by decide) gw_225 rfl tb_RS rfl dX5_isStickyWish_18 rfl ?_
        refine g_iload_n hC 1 22 rfl dX5_isStickyWish_21 rfl rfl ?_
        refine g_iald hC 23 tb_TS (by decide) dX5_isStickyWish_22 rfl (fun x3 => ?_)
        refine g_if_eq hC 30 26 dX5_isStickyWish_23 rfl rfl ?_ ?_
        · refine g_iconst hC 31 dX5_isStickyWish_30 rfl ?_
          exact g_zreturn hC hr hk dX5_isStickyWish_31
        · exact wk_X5_isStickyWish_J26 hC hr hk _ _
theorem cn_X5_isStickyWish (l : Launch) (a1 : Int) (M : fMem) : fMt l vwCl TB yX5_isStickyWish cX5_isStickyWish 2 (some .boolean) 1 20 0 (fun ad => [.ref (ad 0), .int (fI a1)]) M (dn_X5_isStickyWish a1 M) :=
  fMt.of (by decide +kernel) (fun _ => Nat.le_of_ble_eq_true rfl) (fun p e s m args below meth c D aC ad hC hr hk => wk_X5_isStickyWish hC hr hk a1 M)
def dn_X5_wishedTag (P0 : Nat) (a1 : Int) (M : fMem) : fOp :=
  fEq a1 (-1) (fGt M P0 3 (fun x1 => some (x1, M))) (fEq a1 5 (some ((-1), M)) (some (a1, M)))
set_option maxRecDepth 100000 in
set_option maxHeartbeats 4000000 in
theorem wk_X5_wishedTag {l : Launch} {p : Program} {e : Env} {s : State} {m : MethodId} {args : Array Value} {below : List Frame} {meth : Method} {c : Code} {D : va_G} {aC : Nat → ClassId} {ad : Nat → Nat} (hC : fCx p s m args c vwCl D aC TB ad (fFr ad TB) goodTs cX5_wishedTag RX5 2) (hr : meth.sig.returnType = some .int) (hk : meth.locks = false) (P0 : Nat) (hP0 : fIsC P0) (a1 : Int) (M : fMem) : GM l p e s m args below meth c D aC ad 2 0 0 0 0 [(0, .ref (ad P0)), (1, .int (fI a1))] [] M (dn_X5_wishedTag P0 a1 M) := by
  unfold dn_X5_wishedTag
  refine g_iload_n hC 1 1 rfl dX5_wishedTag_0 rfl rfl ?_
  refine g_iconst hC 2 dX5_wishedTag_1 rfl ?_
  refine g_icmp_ne hC 10 5 dX5_wishedTag_2 rfl rfl ?_ ?_
  · refine g_iload_n hC 1 11 rfl dX5_wishedTag_10 rfl rfl ?_
    refine g_iconst hC 12 dX5_wishedTag_11 rfl ?_
    refine g_icmp_ne hC 19 15 dX5_wishedTag_12 rfl rfl ?_ ?_
    · refine g_iload_n hC 1 20 rfl dX5_wishedTag_19 rfl rfl ?_
      exact g_ireturn hC hr hk dX5_wishedTag_20
    · refine g_iconst hC 16 dX5_wishedTag_15 rfl ?_
      refine g_goto hC 20 dX5_wishedTag_16 rfl ?_
      exact g_ireturn hC hr hk dX5_wishedTag_20
  · refine g_aload_n hC 0 6 rfl dX5_wishedTag_5 rfl rfl ?_
    refine g_getIN hC 9 inX0 rfl 3 (by decide) gw_152 rfl (tb_C hP0) rfl dX5_wishedTag_6 rfl (fun x1 => ?_)
    exact g_ireturn hC hr hk dX5_wishedTag_9
theorem cn_X5_wishedTag (l : Launch) (P0 : Nat) (hP0 : fIsC P0) (a1 : Int) (M : fMem) : fMt l vwCl TB yX5_wishedTag cX5_wishedTag 2 (some .int) 0 0 0 (fun ad => [.ref (ad P0), .int (fI a1)]) M (dn_X5_wishedTag P0 a1 M) :=
  fMt.of (by decide +kernel) (fun _ => Nat.le_of_ble_eq_true rfl) (fun p e s m args below meth c D aC ad hC hr hk => wk_X5_wishedTag hC hr hk P0 hP0 a1 M)
def dn_X5_updateToNothing_J26 (P0 : Nat) (P1 : Nat) (M : fMem) : fOp :=
  fCl (dn_X0_drop P0 M) (fun _ M5 => some (1, M5))
set_option maxRecDepth 100000 in
set_option maxHeartbeats 4000000 in
theorem wk_X5_updateToNothing_J26 {l : Launch} {p : Program} {e : Env} {s : State} {m : MethodId} {args : Array Value} {below : List Frame} {meth : Method} {c : Code} {D : va_G} {aC : Nat → ClassId} {ad : Nat → Nat} (hC : fCx p s m args c vwCl D aC TB ad (fFr ad TB) goodTs cX5_updateToNothing RX5 2) (hr : meth.sig.returnType = some .int) (hk : meth.locks = false) (P0 : Nat) (hP0 : fIsC P0) (P1 : Nat) (hP1 : fIsH P1)  (M : fMem) : GM l p e s m args below meth c D aC ad 2 1 21 0 26 [(0, .ref (ad P0)), (1, .ref (ad P1))] [] M (dn_X5_updateToNothing_J26 P0 P1 M) := by
  unfold dn_X5_updateToNothing_J26
  refine g_aload_n hC 0 27 rfl dX5_updateToNothing_26 rfl rfl ?_
  refine g_cVN hC 30 0 [] [] (cn_X0_drop l P0 hP0 _) rfl rfl (tb_C hP0) rfl gw_295 gw_298 gw_62 gw_297 gw_6 (by decide +kernel) rfl ⟨Nat.le_of_ble_eq_true rfl, Nat.le_of_ble_eq_true rfl⟩ (Nat.le_of_ble_eq_true rfl) ⟨Nat.zero_le _, Nat.zero_le _⟩ dX5_updateToNothing_27 rfl (fun _ => []) (fun _ => rfl) (fun _ M5 => ?_)
  refine g_iconst hC 31 dX5_updateToNothing_30 rfl ?_
  exact g_ireturn hC hr hk dX5_updateToNothing_31
def dn_X5_updateToNothing (P0 : Nat) (P1 : Nat) (M : fMem) : fOp :=
  fCl (dn_X0_hasEntry P0 M) (fun v1 M2 => fEq v1 0 (some (0, M2)) (fGt M2 P0 1 (fun x3 => fEq x3 0 (fCl (dn_X5_isModified P0 P1 M2) (fun v6 M7 => fEq v6 0 (dn_X5_updateToNothing_J26 P0 P1 M7) (some (3, M7)))) (dn_X5_updateToNothing_J26 P0 P1 M2))))
set_option maxRecDepth 100000 in
set_option maxHeartbeats 4000000 in
theorem wk_X5_updateToNothing {l : Launch} {p : Program} {e : Env} {s : State} {m : MethodId} {args : Array Value} {below : List Frame} {meth : Method} {c : Code} {D : va_G} {aC : Nat → ClassId} {ad : Nat → Nat} (hC : fCx p s m args c vwCl D aC TB ad (fFr ad TB) goodTs cX5_updateToNothing RX5 2) (hr : meth.sig.returnType = some .int) (hk : meth.locks = false) (P0 : Nat) (hP0 : fIsC P0) (P1 : Nat) (hP1 : fIsH P1) (M : fMem) : GM l p e s m args below meth c D aC ad 2 1 21 0 0 [(0, .ref (ad P0)), (1, .ref (ad P1))] [] M (dn_X5_updateToNothing P0 P1 M) := by
  unfold dn_X5_updateToNothing
  refine g_aload_n hC 0 1 rfl dX5_updateToNothing_0 rfl rfl ?_
  refine g_cVN hC 4 0 [] [] (cn_X0_hasEntry l P0 hP0 _) rfl rfl (tb_C hP0) rfl gw_253 gw_256 gw_62 gw_255 gw_1 (by decide +kernel) rfl ⟨Nat.le_of_ble_eq_true rfl, Nat.le_of_ble_eq_true rfl⟩ (Nat.le_of_ble_eq_true rfl) ⟨Nat.zero_le _, Nat.zero_le _⟩ dX5_updateToNothing_1 rfl (fun v1 => .int (fI v1) :: []) (fun _ => rfl) (fun v1 M2 => ?_)
  refine g_if_ne hC 9 7 dX5_updateToNothing_4 rfl rfl ?_ ?_
  · refine g_aload_n hC 0 10 rfl dX5_updateToNothing_9 rfl rfl ?_
    refine g_getIN hC 13 inX0 rfl 1 (by decide) gw_148 rfl (tb_C hP0) rfl dX5_updateToNothing_10 rfl (fun x3 => ?_)
    refine g_if_ne hC 26 16 dX5_updateToNothing_13 rfl rfl ?_ ?_
    · exact wk_X5_updateToNothing_J26 hC hr hk _ hP0 _ hP1 _
    · refine g_aload_n hC 0 17 rfl dX5_updateToNothing_16 rfl rfl ?_
      refine g_aload_n hC 1 18 rfl dX5_updateToNothing_17 rfl rfl ?_
      refine g_cS hC 21 2 [.ref (ad P0), .ref (ad P1)] [] (cn_X5_isModified l P0 hP0 P1 hP1 _) rfl rfl gw_327 gw_329 gw_59 gw_328 (by decide +kernel) rfl ⟨Nat.le_of_ble_eq_true rfl, Nat.le_of_ble_eq_true rfl⟩ (Nat.le_of_ble_eq_true rfl) ⟨Nat.zero_le _, Nat.zero_le _⟩ dX5_updateToNothing_18 rfl (fun v6 => .int (fI v6) :: []) (fun _ => rfl) (fun v6 M7 => ?_)
      refine g_if_eq hC 26 24 dX5_updateToNothing_21 rfl rfl ?_ ?_
      · exact wk_X5_updateToNothing_J26 hC hr hk _ hP0 _ hP1 _
      · refine g_iconst hC 25 dX5_updateToNothing_24 rfl ?_
        exact g_ireturn hC hr hk dX5_updateToNothing_25
  · refine g_iconst hC 8 dX5_updateToNothing_7 rfl ?_
    exact g_ireturn hC hr hk dX5_updateToNothing_8
theorem cn_X5_updateToNothing (l : Launch) (P0 : Nat) (hP0 : fIsC P0) (P1 : Nat) (hP1 : fIsH P1) (M : fMem) : fMt l vwCl TB yX5_updateToNothing cX5_updateToNothing 2 (some .int) 1 21 0 (fun ad => [.ref (ad P0), .ref (ad P1)]) M (dn_X5_updateToNothing P0 P1 M) :=
  fMt.of (by decide +kernel) (fun _ => Nat.le_of_ble_eq_true rfl) (fun p e s m args below meth c D aC ad hC hr hk => wk_X5_updateToNothing hC hr hk P0 hP0 P1 hP1 M)
def dn_X5_mergeInto (P1 : Nat) (P2 : Nat) (a3 : Int) (M : fMem) : fOp :=
  fGt M P1 0 (fun x1 => fRd M (P2 + 1) 24 x1 (fun x2 => fGt M P1 2 (fun x3 => fRd M (P2 + 1) 24 a3 (fun x4 => fCl (dn_X3_merge x2 x3 x4 M) (fun _ M6 => fCl (dn_X3_isTooLong M6) (fun v7 M8 => fEq v7 0 (fGt M8 78 2 (fun x9 => fCl (dn_X0_hold P1 a3 x9 M8) (fun _ M11 => fGt M11 78 4 (fun x12 => fEq x12 0 (some (4, M11)) (some (5, M11)))))) (some ((-7), M8))))))))
set_option maxRecDepth 100000 in
set_option maxHeartbeats 4000000 in
theorem wk_X5_mergeInto {l : Launch} {p : Program} {e : Env} {s : State} {m : MethodId} {args : Array Value} {below : List Frame} {meth : Method} {c : Code} {D : va_G} {aC : Nat → ClassId} {ad : Nat → Nat} (hC : fCx p s m args c vwCl D aC TB ad (fFr ad TB) goodTs cX5_mergeInto RX5 4) (hr : meth.sig.returnType = some .int) (hk : meth.locks = false) (P1 : Nat) (hP1 : fIsC P1) (P2 : Nat) (hP2 : fIsH P2) (a3 : Int) (M : fMem) : GM l p e s m args below meth c D aC ad 4 4 106 0 0 [(0, .ref (ad 0)), (1, .ref (ad P1)), (2, .ref (ad P2)), (3, .int (fI a3))] [] M (dn_X5_mergeInto P1 P2 a3 M) := by
  unfold dn_X5_mergeInto
  refine g_aload_n hC 0 1 rfl dX5_mergeInto_0 rfl rfl ?_
  refine g_getA hC 4 inX5 rfl 4 (by decide) gw_227 rfl tb_RS rfl dX5_mergeInto_1 rfl ?_
  refine g_aload_n hC 2 5 rfl dX5_mergeInto_4 rfl rfl ?_
  refine g_getAN hC 8 inX2 rfl 0 (by decide) gw_87 rfl (tb_H hP2) rfl dX5_mergeInto_5 rfl ?_
  refine g_aload_n hC 1 9 rfl dX5_mergeInto_8 rfl rfl ?_
  refine g_getIN hC 12 inX0 rfl 0 (by decide) gw_146 rfl (tb_C hP1) rfl dX5_mergeInto_9 rfl (fun x1 => ?_)
  refine g_lald hC 13 (tb_H_1 hP2) (by decide) dX5_mergeInto_12 rfl (fun x2 => ?_)
  refine g_aload_n hC 1 14 rfl dX5_mergeInto_13 rfl rfl ?_
  refine g_getJN hC 17 inX0 rfl 2 (by decide) gw_150 rfl (tb_C hP1) rfl dX5_mergeInto_14 rfl (fun x3 => ?_)
  refine g_aload_n hC 2 18 rfl dX5_mergeInto_17 rfl rfl ?_
  refine g_getAN hC 21 inX2 rfl 0 (by decide) gw_87 rfl (tb_H hP2) rfl dX5_mergeInto_18 rfl ?_
  refine g_iload_n hC 3 22 rfl dX5_mergeInto_21 rfl rfl ?_
  refine g_lald hC 23 (tb_H_1 hP2) (by decide) dX5_mergeInto_22 rfl (fun x4 => ?_)
  refine g_cVN hC 26 3 [.long (fL x2), .long (fL x3), .long (fL x4)] [] (cn_X3_merge l x2 x3 x4 _) rfl rfl tb_MG rfl gw_388 gw_391 gw_64 gw_390 gw_21 (by decide +kernel) rfl ⟨Nat.le_of_ble_eq_true rfl, Nat.le_of_ble_eq_true rfl⟩ (Nat.le_of_ble_eq_true rfl) ⟨Nat.zero_le _, Nat.zero_le _⟩ dX5_mergeInto_23 rfl (fun _ => []) (fun _ => rfl) (fun _ M6 => ?_)
  refine g_aload_n hC 0 27 rfl dX5_mergeInto_26 rfl rfl ?_
  refine g_getA hC 30 inX5 rfl 4 (by decide) gw_227 rfl tb_RS rfl dX5_mergeInto_27 rfl ?_
  refine g_cVN hC 33 0 [] [] (cn_X3_isTooLong l _) rfl rfl tb_MG rfl gw_430 gw_433 gw_64 gw_432 gw_28 (by decide +kernel) rfl ⟨Nat.le_of_ble_eq_true rfl, Nat.le_of_ble_eq_true rfl⟩ (Nat.le_of_ble_eq_true rfl) ⟨Nat.zero_le _, Nat.zero_le _⟩ dX5_mergeInto_30 rfl (fun v7 => .int (fI v7) :: []) (fun _ => rfl) (fun v7 M8 => ?_)
  refine g_if_eq hC 39 36 dX5_mergeInto_33 rfl rfl ?_ ?_
  · refine g_aload_n hC 1 40 rfl dX5_mergeInto_39 rfl rfl ?_
    refine g_iload_n hC 3 41 rfl dX5_mergeInto_40 rfl rfl ?_
    refine g_aload_n hC 0 42 rfl dX5_mergeInto_41 rfl rfl ?_
    refine g_getA hC 45 inX5 rfl 4 (by decide) gw_227 rfl tb_RS rfl dX5_mergeInto_42 rfl ?_
    refine g_getJN hC 48 inX3 rfl 2 (by decide) gw_208 rfl tb_MG rfl dX5_mergeInto_45 rfl (fun x9 => ?_)
    refine g_cVN hC 51 2 [.int (fI a3), .long (fL x9)] [] (cn_X0_hold l P1 hP1 a3 x9 _) rfl rfl (tb_C hP1) rfl gw_269 gw_272 gw_62 gw_271 gw_2 (by decide +kernel) rfl ⟨Nat.le_of_ble_eq_true rfl, Nat.le_of_ble_eq_true rfl⟩ (Nat.le_of_ble_eq_true rfl) ⟨Nat.zero_le _, Nat.zero_le _⟩ dX5_mergeInto_48 rfl (fun _ => []) (fun _ => rfl) (fun _ M11 => ?_)
    refine g_aload_n hC 0 52 rfl dX5_mergeInto_51 rfl rfl ?_
    refine g_getA hC 55 inX5 rfl 4 (by decide) gw_227 rfl tb_RS rfl dX5_mergeInto_52 rfl ?_
    refine g_getIN hC 58 inX3 rfl 4 (by decide) gw_211 rfl tb_MG rfl dX5_mergeInto_55 rfl (fun x12 => ?_)
    refine g_if_eq hC 65 61 dX5_mergeInto_58 rfl rfl ?_ ?_
    · refine g_iconst hC 66 dX5_mergeInto_65 rfl ?_
      exact g_ireturn hC hr hk dX5_mergeInto_66
    · refine g_iconst hC 62 dX5_mergeInto_61 rfl ?_
      refine g_goto hC 66 dX5_mergeInto_62 rfl ?_
      exact g_ireturn hC hr hk dX5_mergeInto_66
  · refine g_bipush hC 38 dX5_mergeInto_36 rfl (by decide +kernel) ?_
    exact g_ireturn hC hr hk dX5_mergeInto_38
theorem cn_X5_mergeInto (l : Launch) (P1 : Nat) (hP1 : fIsC P1) (P2 : Nat) (hP2 : fIsH P2) (a3 : Int) (M : fMem) : fMt l vwCl TB yX5_mergeInto cX5_mergeInto 4 (some .int) 4 106 0 (fun ad => [.ref (ad 0), .ref (ad P1), .ref (ad P2), .int (fI a3)]) M (dn_X5_mergeInto P1 P2 a3 M) :=
  fMt.of (by decide +kernel) (fun _ => Nat.le_of_ble_eq_true rfl) (fun p e s m args below meth c D aC ad hC hr hk => wk_X5_mergeInto hC hr hk P1 hP1 P2 hP2 a3 M)
def dn_X5_updateCopy (P1 : Nat) (P2 : Nat) (a3 : Int) (M : fMem) : fOp :=
  fCl (dn_X2_isAlive P2 a3 M) (fun v1 M2 => fGt M2 P1 0 (fun x3 => fEq x3 (-2) (fEq v1 0 (some (0, M2)) (some (3, M2))) (fEq v1 0 (fCl (dn_X5_updateToNothing P1 P2 M2) (fun v18 M19 => some (v18, M19))) (fCl (dn_X0_hasEntry P1 M2) (fun v4 M5 => fEq v4 0 (fRd M5 (P2 + 1) 24 a3 (fun x15 => fCl (dn_X0_hold P1 a3 x15 M5) (fun _ M17 => some (2, M17)))) (fGt M5 P1 1 (fun x6 => fEq x6 0 (fGt M5 P1 0 (fun x7 => fEq x7 a3 (some (0, M5)) (fCl (dn_X5_isModified P1 P2 M5) (fun v8 M9 => fEq v8 0 (fRd M9 (P2 + 1) 24 a3 (fun x12 => fCl (dn_X0_hold P1 a3 x12 M9) (fun _ M14 => some (2, M14)))) (fCl (dn_X5_mergeInto P1 P2 a3 M9) (fun v10 M11 => some (v10, M11))))))) (some (0, M5)))))))))
set_option maxRecDepth 100000 in
set_option maxHeartbeats 4000000 in
theorem wk_X5_updateCopy {l : Launch} {p : Program} {e : Env} {s : State} {m : MethodId} {args : Array Value} {below : List Frame} {meth : Method} {c : Code} {D : va_G} {aC : Nat → ClassId} {ad : Nat → Nat} (hC : fCx p s m args c vwCl D aC TB ad (fFr ad TB) goodTs cX5_updateCopy RX5 5) (hr : meth.sig.returnType = some .int) (hk : meth.locks = false) (P1 : Nat) (hP1 : fIsC P1) (P2 : Nat) (hP2 : fIsH P2) (a3 : Int) (M : fMem) : GM l p e s m args below meth c D aC ad 5 5 129 0 0 [(0, .ref (ad 0)), (1, .ref (ad P1)), (2, .ref (ad P2)), (3, .int (fI a3))] [] M (dn_X5_updateCopy P1 P2 a3 M) := by
  unfold dn_X5_updateCopy
  refine g_aload_n hC 2 1 rfl dX5_updateCopy_0 rfl rfl ?_
  refine g_iload_n hC 3 2 rfl dX5_updateCopy_1 rfl rfl ?_
  refine g_cVN hC 5 1 [.int (fI a3)] [] (cn_X2_isAlive l P2 hP2 a3 _) rfl rfl (tb_H hP2) rfl gw_323 gw_326 gw_60 gw_325 gw_12 (by decide +kernel) rfl ⟨Nat.le_of_ble_eq_true rfl, Nat.le_of_ble_eq_true rfl⟩ (Nat.le_of_ble_eq_true rfl) ⟨Nat.zero_le _, Nat.zero_le _⟩ dX5_updateCopy_2 rfl (fun v1 => .int (fI v1) :: []) (fun _ => rfl) (fun v1 M2 => ?_)
  refine g_istore hC 7 [(4, .int (fI v1)), (0, .ref (ad 0)), (1, .ref (ad P1)), (2, .ref (ad P2)), (3, .int (fI a3))] dX5_updateCopy_5 (by decide) rfl rfl ?_
  refine g_aload_n hC 2 8 rfl dX5_updateCopy_7 rfl rfl ?_
  refine g_getIN hC 11 inX0 rfl 0 (by decide) gw_146 rfl (tb_C hP1) rfl dX5_updateCopy_8 rfl (fun x3 => ?_)
  refine g_bipush hC 13 dX5_updateCopy_11 rfl (by decide +kernel) ?_
  refine g_icmp_ne hC 27 16 dX5_updateCopy_13 rfl rfl ?_ ?_
  · refine g_iload hC 0 29 rfl dX5_updateCopy_27 rfl ?_
    refine g_if_ne hC 38 32 dX5_updateCopy_29 rfl rfl ?_ ?_
    · refine g_aload_n hC 2 39 rfl dX5_updateCopy_38 rfl rfl ?_
      refine g_cVN hC 42 0 [] [] (cn_X0_hasEntry l P1 hP1 _) rfl rfl (tb_C hP1) rfl gw_253 gw_256 gw_62 gw_255 gw_1 (by decide +kernel) rfl ⟨Nat.le_of_ble_eq_true rfl, Nat.le_of_ble_eq_true rfl⟩ (Nat.le_of_ble_eq_true rfl) ⟨Nat.zero_le _, Nat.zero_le _⟩ dX5_updateCopy_39 rfl (fun v4 => .int (fI v4) :: []) (fun _ => rfl) (fun v4 M5 => ?_)
      refine g_if_ne hC 58 45 dX5_updateCopy_42 rfl rfl ?_ ?_
      · refine g_aload_n hC 2 59 rfl dX5_updateCopy_58 rfl rfl ?_
        refine g_getIN hC 62 inX0 rfl 1 (by decide) gw_148 rfl (tb_C hP1) rfl dX5_updateCopy_59 rfl (fun x6 => ?_)
        refine g_if_ne hC 73 65 dX5_updateCopy_62 rfl rfl ?_ ?_
        · refine g_iconst hC 74 dX5_updateCopy_73 rfl ?_
          exact g_ireturn hC hr hk dX5_updateCopy_74
        · refine g_aload_n hC 2 66 rfl dX5_updateCopy_65 rfl rfl ?_
          refine g_getIN hC 69 inX0 rfl 0 (by decide) gw_146 rfl (tb_C hP1) rfl dX5_updateCopy_66 rfl (fun x7 => ?_)
          refine g_iload_n hC 4 70 rfl dX5_updateCopy_69 rfl rfl ?_
          refine g_icmp_ne hC 75 73 dX5_updateCopy_70 rfl rfl ?_ ?_
          · refine g_aload_n hC 2 76 rfl dX5_updateCopy_75 rfl rfl ?_
            refine g_aload_n hC 3 77 rfl dX5_updateCopy_76 rfl rfl ?_
            refine g_cS hC 80 2 [.ref (ad P1), .ref (ad P2)] [] (cn_X5_isModified l P1 hP1 P2 hP2 _) rfl rfl gw_327 gw_329 gw_59 gw_328 (by decide +kernel) rfl ⟨Nat.le_of_ble_eq_true rfl, Nat.le_of_ble_eq_true rfl⟩ (Nat.le_of_ble_eq_true rfl) ⟨Nat.zero_le _, Nat.zero_le _⟩ dX5_updateCopy_77 rfl (fun v8 => .int (fI v8) :: []) (fun _ => rfl) (fun v8 M9 => ?_)
            refine g_if_ne hC 96 83 dX5_updateCopy_80 rfl rfl ?_ ?_
            · refine g_aload_n hC 1 97 rfl dX5_updateCopy_96 rfl rfl ?_
              refine g_aload_n hC 2 98 rfl dX5_updateCopy_97 rfl rfl ?_
              refine g_aload_n hC 3 99 rfl dX5_updateCopy_98 rfl rfl ?_
              refine g_iload_n hC 4 100 rfl dX5_updateCopy_99 rfl rfl ?_
              refine g_cV hC 103 3 [.ref (ad P1), .ref (ad P2), .int (fI a3)] [] (cn_X5_mergeInto l P1 hP1 P2 hP2 a3 _) rfl rfl tb_RS rfl gw_384 gw_387 gw_59 gw_386 gw_20 (by decide +kernel) rfl ⟨Nat.le_of_ble_eq_true rfl, Nat.le_of_ble_eq_true rfl⟩ (Nat.le_of_ble_eq_true rfl) ⟨Nat.zero_le _, Nat.zero_le _⟩ dX5_updateCopy_100 rfl (fun v10 => .int (fI v10) :: []) (fun _ => rfl) (fun v10 M11 => ?_)
              exact g_ireturn hC hr hk dX5_updateCopy_103
            · refine g_aload_n hC 2 84 rfl dX5_updateCopy_83 rfl rfl ?_
              refine g_iload_n hC 4 85 rfl dX5_updateCopy_84 rfl rfl ?_
              refine g_aload_n hC 3 86 rfl dX5_updateCopy_85 rfl rfl ?_
              refine g_getAN hC 89 inX2 rfl 0 (by decide) gw_87 rfl (tb_H hP2) rfl dX5_updateCopy_86 rfl ?_
              refine g_iload_n hC 4 90 rfl dX5_updateCopy_89 rfl rfl ?_
              refine g_lald hC 91 (tb_H_1 hP2) (by decide) dX5_updateCopy_90 rfl (fun x12 => ?_)
              refine g_cVN hC 94 2 [.int (fI a3), .long (fL x12)] [] (cn_X0_hold l P1 hP1 a3 x12 _) rfl rfl (tb_C hP1) rfl gw_269 gw_272 gw_62 gw_271 gw_2 (by decide +kernel) rfl ⟨Nat.le_of_ble_eq_true rfl, Nat.le_of_ble_eq_true rfl⟩ (Nat.le_of_ble_eq_true rfl) ⟨Nat.zero_le _, Nat.zero_le _⟩ dX5_updateCopy_91 rfl (fun _ => []) (fun _ => rfl) (fun _ M14 => ?_)
              refine g_iconst hC 95 dX5_updateCopy_94 rfl ?_
              exact g_ireturn hC hr hk dX5_updateCopy_95
          · refine g_iconst hC 74 dX5_updateCopy_73 rfl ?_
            exact g_ireturn hC hr hk dX5_updateCopy_74
      · refine g_aload_n hC 2 46 rfl dX5_updateCopy_45 rfl rfl ?_
        refine g_iload_n hC 4 47 rfl dX5_updateCopy_46 rfl rfl ?_
        refine g_aload_n hC 3 48 rfl dX5_updateCopy_47 rfl rfl ?_
        refine g_getAN hC 51 inX2 rfl 0 (by decide) gw_87 rfl (tb_H hP2) rfl dX5_updateCopy_48 rfl ?_
        refine g_iload_n hC 4 52 rfl dX5_updateCopy_51 rfl rfl ?_
        refine g_lald hC 53 (tb_H_1 hP2) (by decide) dX5_updateCopy_52 rfl (fun x15 => ?_)
        refine g_cVN hC 56 2 [.int (fI a3), .long (fL x15)] [] (cn_X0_hold l P1 hP1 a3 x15 _) rfl rfl (tb_C hP1) rfl gw_269 gw_272 gw_62 gw_271 gw_2 (by decide +kernel) rfl ⟨Nat.le_of_ble_eq_true rfl, Nat.le_of_ble_eq_true rfl⟩ (Nat.le_of_ble_eq_true rfl) ⟨Nat.zero_le _, Nat.zero_le _⟩ dX5_updateCopy_53 rfl (fun _ => []) (fun _ => rfl) (fun _ M17 => ?_)
        refine g_iconst hC 57 dX5_updateCopy_56 rfl ?_
        exact g_ireturn hC hr hk dX5_updateCopy_57
    · refine g_aload_n hC 2 33 rfl dX5_updateCopy_32 rfl rfl ?_
      refine g_aload_n hC 3 34 rfl dX5_updateCopy_33 rfl rfl ?_
      refine g_cS hC 37 2 [.ref (ad P1), .ref (ad P2)] [] (cn_X5_updateToNothing l P1 hP1 P2 hP2 _) rfl rfl gw_381 gw_383 gw_59 gw_382 (by decide +kernel) rfl ⟨Nat.le_of_ble_eq_true rfl, Nat.le_of_ble_eq_true rfl⟩ (Nat.le_of_ble_eq_true rfl) ⟨Nat.zero_le _, Nat.zero_le _⟩ dX5_updateCopy_34 rfl (fun v18 => .int (fI v18) :: []) (fun _ => rfl) (fun v18 M19 => ?_)
      exact g_ireturn hC hr hk dX5_updateCopy_37
  · refine g_iload hC 0 18 rfl dX5_updateCopy_16 rfl ?_
    refine g_if_eq hC 25 21 dX5_updateCopy_18 rfl rfl ?_ ?_
    · refine g_iconst hC 26 dX5_updateCopy_25 rfl ?_
      exact g_ireturn hC hr hk dX5_updateCopy_26
    · refine g_iconst hC 22 dX5_updateCopy_21 rfl ?_
      refine g_goto hC 26 dX5_updateCopy_22 rfl ?_
      exact g_ireturn hC hr hk dX5_updateCopy_26
theorem cn_X5_updateCopy (l : Launch) (P1 : Nat) (hP1 : fIsC P1) (P2 : Nat) (hP2 : fIsH P2) (a3 : Int) (M : fMem) : fMt l vwCl TB yX5_updateCopy cX5_updateCopy 5 (some .int) 5 129 0 (fun ad => [.ref (ad 0), .ref (ad P1), .ref (ad P2), .int (fI a3)]) M (dn_X5_updateCopy P1 P2 a3 M) :=
  fMt.of (by decide +kernel) (fun _ => Nat.le_of_ble_eq_true rfl) (fun p e s m args below meth c D aC ad hC hr hk => wk_X5_updateCopy hC hr hk P1 hP1 P2 hP2 a3 M)
def dn_X5_update (a1 : Int) (a2 : Int) (a3 : Int) (M : fMem) : fOp :=
  fCl (dn_X5_isClient a1 M) (fun v1 M2 => fEq v1 0 (some ((-1), M2)) (fCl (dn_X5_isFile a2 M2) (fun v3 M4 => fEq v3 0 (some ((-1), M4)) (fCl (dn_X5_isStickyWish a3 M4) (fun v5 M6 => fEq v5 0 (some ((-1), M6)) (fCl (dn_X5_copyOf a1 a2 M6) (fun v7 M8 => fCk v7 (fun P9 => fIx 4 2 11 a2 (fun P10 => fCl (dn_X5_wishedTag P9 a3 M8) (fun v11 M12 => fCl (dn_X5_selectedBy P10 v11 M12) (fun v13 M14 => fCl (dn_X5_updateCopy P9 P10 v13 M14) (fun v15 M16 => fEq v15 3 (some (v15, M16)) (fEq v15 (-7) (some (v15, M16)) (fPt M16 P9 3 v11 (fun M17 => some (v15, M17))))))))))))))))
set_option maxRecDepth 100000 in
set_option maxHeartbeats 4000000 in
theorem wk_X5_update {l : Launch} {p : Program} {e : Env} {s : State} {m : MethodId} {args : Array Value} {below : List Frame} {meth : Method} {c : Code} {D : va_G} {aC : Nat → ClassId} {ad : Nat → Nat} (hC : fCx p s m args c vwCl D aC TB ad (fFr ad TB) goodTs cX5_update RX5 8) (hr : meth.sig.returnType = some .int) (hk : meth.locks = false) (a1 : Int) (a2 : Int) (a3 : Int) (M : fMem) : GM l p e s m args below meth c D aC ad 8 6 153 0 0 [(0, .ref (ad 0)), (1, .int (fI a1)), (2, .int (fI a2)), (3, .int (fI a3))] [] M (dn_X5_update a1 a2 a3 M) := by
  unfold dn_X5_update
  refine g_iload_n hC 1 1 rfl dX5_update_0 rfl rfl ?_
  refine g_cS hC 4 1 [.int (fI a1)] [] (cn_X5_isClient l a1 _) rfl rfl gw_243 gw_245 gw_59 gw_244 (by decide +kernel) rfl ⟨Nat.le_of_ble_eq_true rfl, Nat.le_of_ble_eq_true rfl⟩ (Nat.le_of_ble_eq_true rfl) ⟨Nat.zero_le _, Nat.zero_le _⟩ dX5_update_1 rfl (fun v1 => .int (fI v1) :: []) (fun _ => rfl) (fun v1 M2 => ?_)
  refine g_if_eq hC 22 7 dX5_update_4 rfl rfl ?_ ?_
  · refine g_iconst hC 23 dX5_update_22 rfl ?_
    exact g_ireturn hC hr hk dX5_update_23
  · refine g_iload_n hC 2 8 rfl dX5_update_7 rfl rfl ?_
    refine g_cS hC 11 1 [.int (fI a2)] [] (cn_X5_isFile l a2 _) rfl rfl gw_246 gw_248 gw_59 gw_247 (by decide +kernel) rfl ⟨Nat.le_of_ble_eq_true rfl, Nat.le_of_ble_eq_true rfl⟩ (Nat.le_of_ble_eq_true rfl) ⟨Nat.zero_le _, Nat.zero_le _⟩ dX5_update_8 rfl (fun v3 => .int (fI v3) :: []) (fun _ => rfl) (fun v3 M4 => ?_)
    refine g_if_eq hC 22 14 dX5_update_11 rfl rfl ?_ ?_
    · refine g_iconst hC 23 dX5_update_22 rfl ?_
      exact g_ireturn hC hr hk dX5_update_23
    · refine g_aload_n hC 0 15 rfl dX5_update_14 rfl rfl ?_
      refine g_iload_n hC 3 16 rfl dX5_update_15 rfl rfl ?_
      refine g_cV hC 19 1 [.int (fI a3)] [] (cn_X5_isStickyWish l a3 _) rfl rfl tb_RS rfl gw_367 gw_370 gw_59 gw_369 gw_18 (by decide +kernel) rfl ⟨Nat.le_of_ble_eq_true rfl, Nat.le_of_ble_eq_true rfl⟩ (Nat.le_of_ble_eq_true rfl) ⟨Nat.zero_le _, Nat.zero_le _⟩ dX5_update_16 rfl (fun v5 => .int (fI v5) :: []) (fun _ => rfl) (fun v5 M6 => ?_)
      refine g_if_ne hC 24 22 dX5_update_19 rfl rfl ?_ ?_
      · refine g_aload_n hC 0 25 rfl dX5_update_24 rfl rfl ?_
        refine g_iload_n hC 1 26 rfl dX5_update_25 rfl rfl ?_
        refine g_iload_n hC 2 27 rfl dX5_update_26 rfl rfl ?_
        refine g_cV hC 30 2 [.int (fI a1), .int (fI a2)] [] (cn_X5_copyOf l a1 a2 _) rfl rfl tb_RS rfl gw_249 gw_252 gw_59 gw_251 gw_0 (by decide +kernel) rfl ⟨Nat.le_of_ble_eq_true rfl, Nat.le_of_ble_eq_true rfl⟩ (Nat.le_of_ble_eq_true rfl) ⟨Nat.zero_le _, Nat.zero_le _⟩ dX5_update_27 rfl (fun v7 => .ref (ad v7.toNat) :: []) (fun _ => rfl) (fun v7 M8 => ?_)
        refine g_ck (fun P9 hP9 => ?_)
        refine g_astore hC 32 [(4, .ref (ad P9)), (0, .ref (ad 0)), (1, .int (fI a1)), (2, .int (fI a2)), (3, .int (fI a3))] dX5_update_30 (by decide) rfl rfl ?_
        refine g_aload_n hC 1 33 rfl dX5_update_32 rfl rfl ?_
        refine g_getA hC 36 inX5 rfl 0 (by decide) gw_223 rfl tb_RS rfl dX5_update_33 rfl ?_
        refine g_iload_n hC 3 37 rfl dX5_update_36 rfl rfl ?_
        refine g_aald hC 4 2 11 38 tb_HA rfl tb_HA_q rfl (by decide) dX5_update_37 rfl (fun P10 hP10 => ?_)
        replace hP10 := fIsH_of hP10
        refine g_astore hC 40 [(5, .ref (ad P10)), (4, .ref (ad P9)), (0, .ref (ad 0)), (1, .int (fI a1)), (2, .int (fI a2)), (3, .int (fI a3))] dX5_update_38 (by decide) rfl rfl ?_
        refine g_aload hC 1 42 rfl dX5_update_40 rfl ?_
        refine g_iload_n hC 5 43 rfl dX5_update_42 rfl rfl ?_
        refine g_cS hC 46 2 [.ref (ad P9), .int (fI a3)] [] (cn_X5_wishedTag l P9 hP9 a3 _) rfl rfl gw_374 gw_376 gw_59 gw_375 (by decide +kernel) rfl ⟨Nat.le_of_ble_eq_true rfl, Nat.le_of_ble_eq_true rfl⟩ (Nat.le_of_ble_eq_true rfl) ⟨Nat.zero_le _, Nat.zero_le _⟩ dX5_update_43 rfl (fun v11 => .int (fI v11) :: []) (fun _ => rfl) (fun v11 M12 => ?_)
        refine g_istore hC 48 [(6, .int (fI v11)), (5, .ref (ad P10)), (4, .ref (ad P9)), (0, .ref (ad 0)), (1, .int (fI a1)), (2, .int (fI a2)), (3, .int (fI a3))] dX5_update_46 (by decide) rfl rfl ?_
        refine g_aload_n hC 3 49 rfl dX5_update_48 rfl rfl ?_
        refine g_aload hC 2 51 rfl dX5_update_49 rfl ?_
        refine g_aload hC 1 53 rfl dX5_update_51 rfl ?_
        refine g_aload_n hC 3 54 rfl dX5_update_53 rfl rfl ?_
        refine g_aload hC 1 56 rfl dX5_update_54 rfl ?_
        refine g_iload hC 0 58 rfl dX5_update_56 rfl ?_
        refine g_cV hC 61 2 [.ref (ad P10), .int (fI v11)] [.ref (ad P10), .ref (ad P9), .ref (ad 0)] (cn_X5_selectedBy l P10 hP10 v11 _) rfl rfl tb_RS rfl gw_311 gw_314 gw_59 gw_313 gw_9 (by decide +kernel) rfl ⟨Nat.le_of_ble_eq_true rfl, Nat.le_of_ble_eq_true rfl⟩ (Nat.le_of_ble_eq_true rfl) ⟨Nat.zero_le _, Nat.zero_le _⟩ dX5_update_58 rfl (fun v13 => .int (fI v13) :: [.ref (ad P10), .ref (ad P9), .ref (ad 0)]) (fun _ => rfl) (fun v13 M14 => ?_)
        refine g_cV hC 64 3 [.ref (ad P9), .ref (ad P10), .int (fI v13)] [] (cn_X5_updateCopy l P9 hP9 P10 hP10 v13 _) rfl rfl tb_RS rfl gw_377 gw_380 gw_59 gw_379 gw_19 (by decide +kernel) rfl ⟨Nat.le_of_ble_eq_true rfl, Nat.le_of_ble_eq_true rfl⟩ (Nat.le_of_ble_eq_true rfl) ⟨Nat.zero_le _, Nat.zero_le _⟩ dX5_update_61 rfl (fun v15 => .int (fI v15) :: []) (fun _ => rfl) (fun v15 M16 => ?_)
        refine g_istore hC 66 [(7, .int (fI v15)), (6, .int (fI v11)), (5, .ref (ad P10)), (4, .ref (ad P9)), (0, .ref (ad 0)), (1, .int (fI a1)), (2, .int (fI a2)), (3, .int (fI a3))] dX5_update_64 (by decide) rfl rfl ?_
        refine g_iload hC 0 68 rfl dX5_update_66 rfl ?_
        refine g_iconst hC 69 dX5_update_68 rfl ?_
        refine g_icmp_eq hC 86 72 dX5_update_69 rfl rfl ?_ ?_
        · refine g_iload hC 0 88 rfl dX5_update_86 rfl ?_
          exact g_ireturn hC hr hk dX5_update_88
        · refine g_iload hC 0 74 rfl dX5_update_72 rfl ?_
          refine g_bipush hC 76 dX5_update_74 rfl (by decide +kernel) ?_
          refine g_icmp_eq hC 86 79 dX5_update_76 rfl rfl ?_ ?_
          · refine g_iload hC 0 88 rfl dX5_update_86 rfl ?_
            exact g_ireturn hC hr hk dX5_update_88
          · refine g_aload hC 3 81 rfl dX5_update_79 rfl ?_
            refine g_iload hC 1 83 rfl dX5_update_81 rfl ?_
            refine g_putIN hC 86 tyX0 tyX0_ok nmX0 inX0 rfl 3 (by decide) gw_152 rfl rfl (by decide +kernel) (tb_C hP9) rfl dX5_update_83 rfl (fun M17 => ?_)
            refine g_iload hC 0 88 rfl dX5_update_86 rfl ?_
            exact g_ireturn hC hr hk dX5_update_88
      · refine g_iconst hC 23 dX5_update_22 rfl ?_
        exact g_ireturn hC hr hk dX5_update_23
theorem cn_X5_update (l : Launch) (a1 : Int) (a2 : Int) (a3 : Int) (M : fMem) : fMt l vwCl TB yX5_update cX5_update 8 (some .int) 6 153 0 (fun ad => [.ref (ad 0), .int (fI a1), .int (fI a2), .int (fI a3)]) M (dn_X5_update a1 a2 a3 M) :=
  fMt.of (by decide +kernel) (fun _ => Nat.le_of_ble_eq_true rfl) (fun p e s m args below meth c D aC ad hC hr hk => wk_X5_update hC hr hk a1 a2 a3 M)
def dn_X5_tag_J146 (P5 : Nat) (P6 : Nat) (a1 a2 a3 a4 a7 as0 as1 : Int) (M : fMem) : fOp :=
  fWr M (P6 + 10) 5 as1 as0 (fun M16 => fRz 1 M16)
set_option maxRecDepth 100000 in
set_option maxHeartbeats 4000000 in
theorem wk_X5_tag_J146 {l : Launch} {p : Program} {e : Env} {s : State} {m : MethodId} {args : Array Value} {below : List Frame} {meth : Method} {c : Code} {D : va_G} {aC : Nat → ClassId} {ad : Nat → Nat} (hC : fCx p s m args c vwCl D aC TB ad (fFr ad TB) goodTs cX5_tag RX5 8) (hr : meth.sig.returnType = some .boolean) (hk : meth.locks = false) (P5 : Nat) (hP5 : fIsC P5) (P6 : Nat) (hP6 : fIsH P6) (a1 a2 a3 a4 a7 as0 as1 : Int)  (M : fMem) : GM l p e s m args below meth c D aC ad 8 2 44 0 146 [(0, .ref (ad 0)), (1, .int (fI a1)), (2, .int (fI a2)), (3, .int (fI a3)), (4, .int (fI a4)), (5, .ref (ad P5)), (6, .ref (ad P6)), (7, .int (fI a7))] [.int (fI as0), .int (fI as1), .ref (ad (P6 + 10))] M (dn_X5_tag_J146 P5 P6 a1 a2 a3 a4 a7 as0 as1 M) := by
  unfold dn_X5_tag_J146
  refine g_iast hC 147 (tb_H_10 hP6) (by decide) dX5_tag_146 rfl (fun M16 => ?_)
  refine g_iconst hC 148 dX5_tag_147 rfl ?_
  exact g_zreturn hC hr hk dX5_tag_148
def dn_X5_tag_J109 (P5 : Nat) (P6 : Nat) (a1 a2 a3 a4 a7 : Int) (M : fMem) : fOp :=
  fWr M 59 5 a3 a7 (fun M14 => fEq a4 0 (fGt M14 P5 0 (fun x15 => dn_X5_tag_J146 P5 P6 a1 a2 a3 a4 a7 x15 a3 M14)) (fGt M14 P5 0 (fun x17 => fCl (dn_X2_openBranch P6 x17 M14) (fun v18 M19 => dn_X5_tag_J146 P5 P6 a1 a2 a3 a4 a7 v18 a3 M19))))
set_option maxRecDepth 100000 in
set_option maxHeartbeats 4000000 in
theorem wk_X5_tag_J109 {l : Launch} {p : Program} {e : Env} {s : State} {m : MethodId} {args : Array Value} {below : List Frame} {meth : Method} {c : Code} {D : va_G} {aC : Nat → ClassId} {ad : Nat → Nat} (hC : fCx p s m args c vwCl D aC TB ad (fFr ad TB) goodTs cX5_tag RX5 8) (hr : meth.sig.returnType = some .boolean) (hk : meth.locks = false) (P5 : Nat) (hP5 : fIsC P5) (P6 : Nat) (hP6 : fIsH P6) (a1 a2 a3 a4 a7 : Int)  (M : fMem) : GM l p e s m args below meth c D aC ad 8 2 44 0 109 [(0, .ref (ad 0)), (1, .int (fI a1)), (2, .int (fI a2)), (3, .int (fI a3)), (4, .int (fI a4)), (5, .ref (ad P5)), (6, .ref (ad P6)), (7, .int (fI a7))] [] M (dn_X5_tag_J109 P5 P6 a1 a2 a3 a4 a7 M) := by
  unfold dn_X5_tag_J109
  refine g_aload_n hC 0 110 rfl dX5_tag_109 rfl rfl ?_
  refine g_getA hC 113 inX5 rfl 2 (by decide) gw_225 rfl tb_RS rfl dX5_tag_110 rfl ?_
  refine g_iload_n hC 3 114 rfl dX5_tag_113 rfl rfl ?_
  refine g_iload hC 7 116 rfl dX5_tag_114 rfl ?_
  refine g_iast hC 117 tb_TS (by decide) dX5_tag_116 rfl (fun M14 => ?_)
  refine g_aload hC 6 119 rfl dX5_tag_117 rfl ?_
  refine g_getAN hC 122 inX2 rfl 13 (by decide) gw_105 rfl (tb_H hP6) rfl dX5_tag_119 rfl ?_
  refine g_iload_n hC 3 123 rfl dX5_tag_122 rfl rfl ?_
  refine g_iload hC 4 125 rfl dX5_tag_123 rfl ?_
  refine g_if_eq hC 141 128 dX5_tag_125 rfl rfl ?_ ?_
  · refine g_aload hC 5 143 rfl dX5_tag_141 rfl ?_
    refine g_getIN hC 146 inX0 rfl 0 (by decide) gw_146 rfl (tb_C hP5) rfl dX5_tag_143 rfl (fun x15 => ?_)
    exact wk_X5_tag_J146 hC hr hk _ hP5 _ hP6 _ _ _ _ _ _ _ _
  · refine g_aload hC 6 130 rfl dX5_tag_128 rfl ?_
    refine g_aload hC 5 132 rfl dX5_tag_130 rfl ?_
    refine g_getIN hC 135 inX0 rfl 0 (by decide) gw_146 rfl (tb_C hP5) rfl dX5_tag_132 rfl (fun x17 => ?_)
    refine g_cVN hC 138 1 [.int (fI x17)] [.int (fI a3), .ref (ad (P6 + 10))] (cn_X2_openBranch l P6 hP6 x17 _) rfl rfl (tb_H hP6) rfl gw_348 gw_351 gw_60 gw_350 gw_15 (by decide +kernel) rfl ⟨Nat.le_of_ble_eq_true rfl, Nat.le_of_ble_eq_true rfl⟩ (Nat.le_of_ble_eq_true rfl) ⟨Nat.zero_le _, Nat.zero_le _⟩ dX5_tag_135 rfl (fun v18 => .int (fI v18) :: [.int (fI a3), .ref (ad (P6 + 10))]) (fun _ => rfl) (fun v18 M19 => ?_)
    refine g_goto hC 146 dX5_tag_138 rfl ?_
    exact wk_X5_tag_J146 hC hr hk _ hP5 _ hP6 _ _ _ _ _ _ _ _
def dn_X5_tag_J81 (P5 : Nat) (P6 : Nat) (a1 a2 a3 a4 a7 : Int) (M : fMem) : fOp :=
  fEq a4 0 (dn_X5_tag_J109 P5 P6 a1 a2 a3 a4 a7 M) (fRd M (P6 + 10) 5 a3 (fun x20 => fEq x20 (-1) (fCl (dn_X2_hasRoom P6 0 1 M) (fun v21 M22 => fEq v21 0 (fRz 0 M22) (dn_X5_tag_J109 P5 P6 a1 a2 a3 a4 a7 M22))) (fRz 0 M)))
set_option maxRecDepth 100000 in
set_option maxHeartbeats 4000000 in
theorem wk_X5_tag_J81 {l : Launch} {p : Program} {e : Env} {s : State} {m : MethodId} {args : Array Value} {below : List Frame} {meth : Method} {c : Code} {D : va_G} {aC : Nat → ClassId} {ad : Nat → Nat} (hC : fCx p s m args c vwCl D aC TB ad (fFr ad TB) goodTs cX5_tag RX5 8) (hr : meth.sig.returnType = some .boolean) (hk : meth.locks = false) (P5 : Nat) (hP5 : fIsC P5) (P6 : Nat) (hP6 : fIsH P6) (a1 a2 a3 a4 a7 : Int)  (M : fMem) : GM l p e s m args below meth c D aC ad 8 2 44 0 81 [(0, .ref (ad 0)), (1, .int (fI a1)), (2, .int (fI a2)), (3, .int (fI a3)), (4, .int (fI a4)), (5, .ref (ad P5)), (6, .ref (ad P6)), (7, .int (fI a7))] [] M (dn_X5_tag_J81 P5 P6 a1 a2 a3 a4 a7 M) := by
  unfold dn_X5_tag_J81
  refine g_iload hC 4 83 rfl dX5_tag_81 rfl ?_
  refine g_if_eq hC 109 86 dX5_tag_83 rfl rfl ?_ ?_
  · exact wk_X5_tag_J109 hC hr hk _ hP5 _ hP6 _ _ _ _ _ _
  · refine g_aload hC 6 88 rfl dX5_tag_86 rfl ?_
    refine g_getAN hC 91 inX2 rfl 13 (by decide) gw_105 rfl (tb_H hP6) rfl dX5_tag_88 rfl ?_
    refine g_iload_n hC 3 92 rfl dX5_tag_91 rfl rfl ?_
    refine g_iald hC 93 (tb_H_10 hP6) (by decide) dX5_tag_92 rfl (fun x20 => ?_)
    refine g_iconst hC 94 dX5_tag_93 rfl ?_
    refine g_icmp_ne hC 107 97 dX5_tag_94 rfl rfl ?_ ?_
    · refine g_iconst hC 108 dX5_tag_107 rfl ?_
      exact g_zreturn hC hr hk dX5_tag_108
    · refine g_aload hC 6 99 rfl dX5_tag_97 rfl ?_
      refine g_iconst hC 100 dX5_tag_99 rfl ?_
      refine g_iconst hC 101 dX5_tag_100 rfl ?_
      refine g_cVN hC 104 2 [.int (fI 0), .int (fI 1)] [] (cn_X2_hasRoom l P6 hP6 0 1 _) rfl rfl (tb_H hP6) rfl gw_334 gw_337 gw_60 gw_336 gw_13 (by decide +kernel) rfl ⟨Nat.le_of_ble_eq_true rfl, Nat.le_of_ble_eq_true rfl⟩ (Nat.le_of_ble_eq_true rfl) ⟨Nat.zero_le _, Nat.zero_le _⟩ dX5_tag_101 rfl (fun v21 => .int (fI v21) :: []) (fun _ => rfl) (fun v21 M22 => ?_)
      refine g_if_ne hC 109 107 dX5_tag_104 rfl rfl ?_ ?_
      · exact wk_X5_tag_J109 hC hr hk _ hP5 _ hP6 _ _ _ _ _ _
      · refine g_iconst hC 108 dX5_tag_107 rfl ?_
        exact g_zreturn hC hr hk dX5_tag_108
def dn_X5_tag_J49 (P5 : Nat) (P6 : Nat) (a1 a2 a3 a4 as0 : Int) (M : fMem) : fOp :=
  fCl (dn_X0_hasRevision P5 M) (fun v11 M12 => fEq v11 0 (fRz 0 M12) (fRd M12 59 5 a3 (fun x13 => fEq x13 0 (dn_X5_tag_J81 P5 P6 a1 a2 a3 a4 as0 M12) (fRd M12 59 5 a3 (fun x23 => fEq x23 as0 (dn_X5_tag_J81 P5 P6 a1 a2 a3 a4 as0 M12) (fRz 0 M12))))))
set_option maxRecDepth 100000 in
set_option maxHeartbeats 4000000 in
theorem wk_X5_tag_J49 {l : Launch} {p : Program} {e : Env} {s : State} {m : MethodId} {args : Array Value} {below : List Frame} {meth : Method} {c : Code} {D : va_G} {aC : Nat → ClassId} {ad : Nat → Nat} (hC : fCx p s m args c vwCl D aC TB ad (fFr ad TB) goodTs cX5_tag RX5 8) (hr : meth.sig.returnType = some .boolean) (hk : meth.locks = false) (P5 : Nat) (hP5 : fIsC P5) (P6 : Nat) (hP6 : fIsH P6) (a1 a2 a3 a4 as0 : Int)  (M : fMem) : GM l p e s m args below meth c D aC ad 8 2 44 0 49 [(0, .ref (ad 0)), (1, .int (fI a1)), (2, .int (fI a2)), (3, .int (fI a3)), (4, .int (fI a4)), (5, .ref (ad P5)), (6, .ref (ad P6))] [.int (fI as0)] M (dn_X5_tag_J49 P5 P6 a1 a2 a3 a4 as0 M) := by
  unfold dn_X5_tag_J49
  refine g_istore hC 51 [(7, .int (fI as0)), (0, .ref (ad 0)), (1, .int (fI a1)), (2, .int (fI a2)), (3, .int (fI a3)), (4, .int (fI a4)), (5, .ref (ad P5)), (6, .ref (ad P6))] dX5_tag_49 (by decide) rfl rfl ?_
  refine g_aload hC 6 53 rfl dX5_tag_51 rfl ?_
  refine g_cVN hC 56 0 [] [] (cn_X0_hasRevision l P5 hP5 _) rfl rfl (tb_C hP5) rfl gw_287 gw_290 gw_62 gw_289 gw_4 (by decide +kernel) rfl ⟨Nat.le_of_ble_eq_true rfl, Nat.le_of_ble_eq_true rfl⟩ (Nat.le_of_ble_eq_true rfl) ⟨Nat.zero_le _, Nat.zero_le _⟩ dX5_tag_53 rfl (fun v11 => .int (fI v11) :: []) (fun _ => rfl) (fun v11 M12 => ?_)
  refine g_if_eq hC 79 59 dX5_tag_56 rfl rfl ?_ ?_
  · refine g_iconst hC 80 dX5_tag_79 rfl ?_
    exact g_zreturn hC hr hk dX5_tag_80
  · refine g_aload_n hC 1 60 rfl dX5_tag_59 rfl rfl ?_
    refine g_getA hC 63 inX5 rfl 2 (by decide) gw_225 rfl tb_RS rfl dX5_tag_60 rfl ?_
    refine g_iload_n hC 4 64 rfl dX5_tag_63 rfl rfl ?_
    refine g_iald hC 65 tb_TS (by decide) dX5_tag_64 rfl (fun x13 => ?_)
    refine g_if_eq hC 81 68 dX5_tag_65 rfl rfl ?_ ?_
    · refine g_lv [1, 2, 3, 4, 5, 6, 7, 0] rfl ?_
      exact wk_X5_tag_J81 hC hr hk _ hP5 _ hP6 _ _ _ _ _ _
    · refine g_aload_n hC 1 69 rfl dX5_tag_68 rfl rfl ?_
      refine g_getA hC 72 inX5 rfl 2 (by decide) gw_225 rfl tb_RS rfl dX5_tag_69 rfl ?_
      refine g_iload_n hC 4 73 rfl dX5_tag_72 rfl rfl ?_
      refine g_iald hC 74 tb_TS (by decide) dX5_tag_73 rfl (fun x23 => ?_)
      refine g_iload hC 0 76 rfl dX5_tag_74 rfl ?_
      refine g_icmp_eq hC 81 79 dX5_tag_76 rfl rfl ?_ ?_
      · refine g_lv [1, 2, 3, 4, 5, 6, 7, 0] rfl ?_
        exact wk_X5_tag_J81 hC hr hk _ hP5 _ hP6 _ _ _ _ _ _
      · refine g_iconst hC 80 dX5_tag_79 rfl ?_
        exact g_zreturn hC hr hk dX5_tag_80
def dn_X5_tag (a1 : Int) (a2 : Int) (a3 : Int) (a4 : Int) (M : fMem) : fOp :=
  fCl (dn_X5_isClient a1 M) (fun v1 M2 => fEq v1 0 (fRz 0 M2) (fCl (dn_X5_isFile a2 M2) (fun v3 M4 => fEq v3 0 (fRz 0 M4) (fCl (dn_X5_isTag a3 M4) (fun v5 M6 => fEq v5 0 (fRz 0 M6) (fCl (dn_X5_copyOf a1 a2 M6) (fun v7 M8 => fCk v7 (fun P9 => fIx 4 2 11 a2 (fun P10 => fEq a4 0 (dn_X5_tag_J49 P9 P10 a1 a2 a3 a4 1 M8) (dn_X5_tag_J49 P9 P10 a1 a2 a3 a4 2 M8))))))))))
set_option maxRecDepth 100000 in
set_option maxHeartbeats 4000000 in
theorem wk_X5_tag {l : Launch} {p : Program} {e : Env} {s : State} {m : MethodId} {args : Array Value} {below : List Frame} {meth : Method} {c : Code} {D : va_G} {aC : Nat → ClassId} {ad : Nat → Nat} (hC : fCx p s m args c vwCl D aC TB ad (fFr ad TB) goodTs cX5_tag RX5 8) (hr : meth.sig.returnType = some .boolean) (hk : meth.locks = false) (a1 : Int) (a2 : Int) (a3 : Int) (a4 : Int) (M : fMem) : GM l p e s m args below meth c D aC ad 8 2 44 0 0 [(0, .ref (ad 0)), (1, .int (fI a1)), (2, .int (fI a2)), (3, .int (fI a3)), (4, .int (fI a4))] [] M (dn_X5_tag a1 a2 a3 a4 M) := by
  unfold dn_X5_tag
  refine g_iload_n hC 1 1 rfl dX5_tag_0 rfl rfl ?_
  refine g_cS hC 4 1 [.int (fI a1)] [] (cn_X5_isClient l a1 _) rfl rfl gw_243 gw_245 gw_59 gw_244 (by decide +kernel) rfl ⟨Nat.le_of_ble_eq_true rfl, Nat.le_of_ble_eq_true rfl⟩ (Nat.le_of_ble_eq_true rfl) ⟨Nat.zero_le _, Nat.zero_le _⟩ dX5_tag_1 rfl (fun v1 => .int (fI v1) :: []) (fun _ => rfl) (fun v1 M2 => ?_)
  refine g_if_eq hC 21 7 dX5_tag_4 rfl rfl ?_ ?_
  · refine g_iconst hC 22 dX5_tag_21 rfl ?_
    exact g_zreturn hC hr hk dX5_tag_22
  · refine g_iload_n hC 2 8 rfl dX5_tag_7 rfl rfl ?_
    refine g_cS hC 11 1 [.int (fI a2)] [] (cn_X5_isFile l a2 _) rfl rfl gw_246 gw_248 gw_59 gw_247 (by decide +kernel) rfl ⟨Nat.le_of_ble_eq_true rfl, Nat.le_of_ble_eq_true rfl⟩ (Nat.le_of_ble_eq_true rfl) ⟨Nat.zero_le _, Nat.zero_le _⟩ dX5_tag_8 rfl (fun v3 => .int (fI v3) :: []) (fun _ => rfl) (fun v3 M4 => ?_)
    refine g_if_eq hC 21 14 dX5_tag_11 rfl rfl ?_ ?_
    · refine g_iconst hC 22 dX5_tag_21 rfl ?_
      exact g_zreturn hC hr hk dX5_tag_22
    · refine g_iload_n hC 3 15 rfl dX5_tag_14 rfl rfl ?_
      refine g_cS hC 18 1 [.int (fI a3)] [] (cn_X5_isTag l a3 _) rfl rfl gw_371 gw_373 gw_59 gw_372 (by decide +kernel) rfl ⟨Nat.le_of_ble_eq_true rfl, Nat.le_of_ble_eq_true rfl⟩ (Nat.le_of_ble_eq_true rfl) ⟨Nat.zero_le _, Nat.zero_le _⟩ dX5_tag_15 rfl (fun v5 => .int (fI v5) :: []) (fun _ => rfl) (fun v5 M6 => ?_)
      refine g_if_ne hC 23 21 dX5_tag_18 rfl rfl ?_ ?_
      · refine g_aload_n hC 0 24 rfl dX5_tag_23 rfl rfl ?_
        refine g_iload_n hC 1 25 rfl dX5_tag_24 rfl rfl ?_
        refine g_iload_n hC 2 26 rfl dX5_tag_25 rfl rfl ?_
        refine g_cV hC 29 2 [.int (fI a1), .int (fI a2)] [] (cn_X5_copyOf l a1 a2 _) rfl rfl tb_RS rfl gw_249 gw_252 gw_59 gw_251 gw_0 (by decide +kernel) rfl ⟨Nat.le_of_ble_eq_true rfl, Nat.le_of_ble_eq_true rfl⟩ (Nat.le_of_ble_eq_true rfl) ⟨Nat.zero_le _, Nat.zero_le _⟩ dX5_tag_26 rfl (fun v7 => .ref (ad v7.toNat) :: []) (fun _ => rfl) (fun v7 M8 => ?_)
        refine g_ck (fun P9 hP9 => ?_)
        refine g_astore hC 31 [(5, .ref (ad P9)), (0, .ref (ad 0)), (1, .int (fI a1)), (2, .int (fI a2)), (3, .int (fI a3)), (4, .int (fI a4))] dX5_tag_29 (by decide) rfl rfl ?_
        refine g_aload_n hC 1 32 rfl dX5_tag_31 rfl rfl ?_
        refine g_getA hC 35 inX5 rfl 0 (by decide) gw_223 rfl tb_RS rfl dX5_tag_32 rfl ?_
        refine g_iload_n hC 3 36 rfl dX5_tag_35 rfl rfl ?_
        refine g_aald hC 4 2 11 37 tb_HA rfl tb_HA_q rfl (by decide) dX5_tag_36 rfl (fun P10 hP10 => ?_)
        replace hP10 := fIsH_of hP10
        refine g_astore hC 39 [(6, .ref (ad P10)), (5, .ref (ad P9)), (0, .ref (ad 0)), (1, .int (fI a1)), (2, .int (fI a2)), (3, .int (fI a3)), (4, .int (fI a4))] dX5_tag_37 (by decide) rfl rfl ?_
        refine g_iload hC 6 41 rfl dX5_tag_39 rfl ?_
        refine g_if_eq hC 48 44 dX5_tag_41 rfl rfl ?_ ?_
        · refine g_iconst hC 49 dX5_tag_48 rfl ?_
          refine g_lv [2, 3, 4, 5, 6, 1, 0] rfl ?_
          exact wk_X5_tag_J49 hC hr hk _ hP9 _ hP10 _ _ _ _ _ _
        · refine g_iconst hC 45 dX5_tag_44 rfl ?_
          refine g_goto hC 49 dX5_tag_45 rfl ?_
          refine g_lv [2, 3, 4, 5, 6, 1, 0] rfl ?_
          exact wk_X5_tag_J49 hC hr hk _ hP9 _ hP10 _ _ _ _ _ _
      · refine g_iconst hC 22 dX5_tag_21 rfl ?_
        exact g_zreturn hC hr hk dX5_tag_22
theorem cn_X5_tag (l : Launch) (a1 : Int) (a2 : Int) (a3 : Int) (a4 : Int) (M : fMem) : fMt l vwCl TB yX5_tag cX5_tag 8 (some .boolean) 2 44 0 (fun ad => [.ref (ad 0), .int (fI a1), .int (fI a2), .int (fI a3), .int (fI a4)]) M (dn_X5_tag a1 a2 a3 a4 M) :=
  fMt.of (by decide +kernel) (fun _ => Nat.le_of_ble_eq_true rfl) (fun p e s m args below meth c D aC ad hC hr hk => wk_X5_tag hC hr hk a1 a2 a3 a4 M)
def dn_X5_bring_J117 (P4 : Nat) (a1 a2 a5 : Int) (M : fMem) : fOp :=
  fGt M P4 11 (fun x12 => fCl (dn_X2_append P4 x12 a2 0 M) (fun v13 M14 => some (v13, M14)))
set_option maxRecDepth 100000 in
set_option maxHeartbeats 4000000 in
theorem wk_X5_bring_J117 {l : Launch} {p : Program} {e : Env} {s : State} {m : MethodId} {args : Array Value} {below : List Frame} {meth : Method} {c : Code} {D : va_G} {aC : Nat → ClassId} {ad : Nat → Nat} (hC : fCx p s m args c vwCl D aC TB ad (fFr ad TB) goodTs cX5_bring RX5 6) (hr : meth.sig.returnType = some .int) (hk : meth.locks = false) (P4 : Nat) (hP4 : fIsH P4) (a1 a2 a5 : Int)  (M : fMem) : GM l p e s m args below meth c D aC ad 6 2 47 0 117 [(0, .ref (ad 0)), (1, .int (fI a1)), (2, .long (fL a2)), (4, .ref (ad P4)), (5, .int (fI a5))] [] M (dn_X5_bring_J117 P4 a1 a2 a5 M) := by
  unfold dn_X5_bring_J117
  refine g_aload hC 3 119 rfl dX5_bring_117 rfl ?_
  refine g_aload hC 3 121 rfl dX5_bring_119 rfl ?_
  refine g_getIN hC 124 inX2 rfl 11 (by decide) gw_101 rfl (tb_H hP4) rfl dX5_bring_121 rfl (fun x12 => ?_)
  refine g_lload_n hC 2 125 rfl dX5_bring_124 rfl rfl ?_
  refine g_iconst hC 126 dX5_bring_125 rfl ?_
  refine g_cVN hC 129 3 [.int (fI x12), .long (fL a2), .int (fI 0)] [] (cn_X2_append l P4 hP4 x12 a2 0 _) rfl rfl (tb_H hP4) rfl gw_344 gw_347 gw_60 gw_346 gw_14 (by decide +kernel) rfl ⟨Nat.le_of_ble_eq_true rfl, Nat.le_of_ble_eq_true rfl⟩ (Nat.le_of_ble_eq_true rfl) ⟨Nat.zero_le _, Nat.zero_le _⟩ dX5_bring_126 rfl (fun v13 => .int (fI v13) :: []) (fun _ => rfl) (fun v13 M14 => ?_)
  exact g_ireturn hC hr hk dX5_bring_129
def dn_X5_bring_J102 (P4 : Nat) (a1 a2 a5 : Int) (M : fMem) : fOp :=
  fEq a5 0 (dn_X5_bring_J117 P4 a1 a2 a5 M) (fGt M P4 11 (fun x15 => fPt M P4 12 x15 (fun M16 => dn_X5_bring_J117 P4 a1 a2 a5 M16)))
set_option maxRecDepth 100000 in
set_option maxHeartbeats 4000000 in
theorem wk_X5_bring_J102 {l : Launch} {p : Program} {e : Env} {s : State} {m : MethodId} {args : Array Value} {below : List Frame} {meth : Method} {c : Code} {D : va_G} {aC : Nat → ClassId} {ad : Nat → Nat} (hC : fCx p s m args c vwCl D aC TB ad (fFr ad TB) goodTs cX5_bring RX5 6) (hr : meth.sig.returnType = some .int) (hk : meth.locks = false) (P4 : Nat) (hP4 : fIsH P4) (a1 a2 a5 : Int)  (M : fMem) : GM l p e s m args below meth c D aC ad 6 2 47 0 102 [(0, .ref (ad 0)), (1, .int (fI a1)), (2, .long (fL a2)), (4, .ref (ad P4)), (5, .int (fI a5))] [] M (dn_X5_bring_J102 P4 a1 a2 a5 M) := by
  unfold dn_X5_bring_J102
  refine g_iload hC 4 104 rfl dX5_bring_102 rfl ?_
  refine g_if_eq hC 117 107 dX5_bring_104 rfl rfl ?_ ?_
  · exact wk_X5_bring_J117 hC hr hk _ hP4 _ _ _ _
  · refine g_aload hC 3 109 rfl dX5_bring_107 rfl ?_
    refine g_aload hC 3 111 rfl dX5_bring_109 rfl ?_
    refine g_getIN hC 114 inX2 rfl 11 (by decide) gw_101 rfl (tb_H hP4) rfl dX5_bring_111 rfl (fun x15 => ?_)
    refine g_putIN hC 117 tyX2 tyX2_ok nmX2 inX2 rfl 12 (by decide) gw_103 rfl rfl (by decide +kernel) (tb_H hP4) rfl dX5_bring_114 rfl (fun M16 => ?_)
    exact wk_X5_bring_J117 hC hr hk _ hP4 _ _ _ _
def dn_X5_bring_J88 (P4 : Nat) (a1 a2 a5 : Int) (M : fMem) : fOp :=
  fGt M P4 11 (fun x11 => fEq x11 (-1) (fCl (dn_X2_openVendorBranch P4 M) (fun _ M18 => dn_X5_bring_J102 P4 a1 a2 a5 M18)) (dn_X5_bring_J102 P4 a1 a2 a5 M))
set_option maxRecDepth 100000 in
set_option maxHeartbeats 4000000 in
theorem wk_X5_bring_J88 {l : Launch} {p : Program} {e : Env} {s : State} {m : MethodId} {args : Array Value} {below : List Frame} {meth : Method} {c : Code} {D : va_G} {aC : Nat → ClassId} {ad : Nat → Nat} (hC : fCx p s m args c vwCl D aC TB ad (fFr ad TB) goodTs cX5_bring RX5 6) (hr : meth.sig.returnType = some .int) (hk : meth.locks = false) (P4 : Nat) (hP4 : fIsH P4) (a1 a2 a5 : Int)  (M : fMem) : GM l p e s m args below meth c D aC ad 6 2 47 0 88 [(0, .ref (ad 0)), (1, .int (fI a1)), (2, .long (fL a2)), (4, .ref (ad P4)), (5, .int (fI a5))] [] M (dn_X5_bring_J88 P4 a1 a2 a5 M) := by
  unfold dn_X5_bring_J88
  refine g_aload hC 3 90 rfl dX5_bring_88 rfl ?_
  refine g_getIN hC 93 inX2 rfl 11 (by decide) gw_101 rfl (tb_H hP4) rfl dX5_bring_90 rfl (fun x11 => ?_)
  refine g_iconst hC 94 dX5_bring_93 rfl ?_
  refine g_icmp_ne hC 102 97 dX5_bring_94 rfl rfl ?_ ?_
  · exact wk_X5_bring_J102 hC hr hk _ hP4 _ _ _ _
  · refine g_aload hC 3 99 rfl dX5_bring_97 rfl ?_
    refine g_cVN hC 102 0 [] [] (cn_X2_openVendorBranch l P4 hP4 _) rfl rfl (tb_H hP4) rfl gw_442 gw_445 gw_60 gw_444 gw_29 (by decide +kernel) rfl ⟨Nat.le_of_ble_eq_true rfl, Nat.le_of_ble_eq_true rfl⟩ (Nat.le_of_ble_eq_true rfl) ⟨Nat.zero_le _, Nat.zero_le _⟩ dX5_bring_99 rfl (fun _ => []) (fun _ => rfl) (fun _ M18 => ?_)
    exact wk_X5_bring_J102 hC hr hk _ hP4 _ _ _ _
def dn_X5_bring_J65 (P4 : Nat) (a1 a2 a5 as0 as1 : Int) (M : fMem) : fOp :=
  fCl (dn_X2_hasRoom P4 as1 as0 M) (fun v9 M10 => fEq v9 0 (some ((-7), M10)) (fEq a5 0 (dn_X5_bring_J88 P4 a1 a2 a5 M10) (fCl (dn_X2_append P4 0 a2 0 M10) (fun v19 M20 => dn_X5_bring_J88 P4 a1 a2 a5 M20))))
set_option maxRecDepth 100000 in
set_option maxHeartbeats 4000000 in
theorem wk_X5_bring_J65 {l : Launch} {p : Program} {e : Env} {s : State} {m : MethodId} {args : Array Value} {below : List Frame} {meth : Method} {c : Code} {D : va_G} {aC : Nat → ClassId} {ad : Nat → Nat} (hC : fCx p s m args c vwCl D aC TB ad (fFr ad TB) goodTs cX5_bring RX5 6) (hr : meth.sig.returnType = some .int) (hk : meth.locks = false) (P4 : Nat) (hP4 : fIsH P4) (a1 a2 a5 as0 as1 : Int)  (M : fMem) : GM l p e s m args below meth c D aC ad 6 2 47 0 65 [(0, .ref (ad 0)), (1, .int (fI a1)), (2, .long (fL a2)), (4, .ref (ad P4)), (5, .int (fI a5))] [.int (fI as0), .int (fI as1), .ref (ad P4)] M (dn_X5_bring_J65 P4 a1 a2 a5 as0 as1 M) := by
  unfold dn_X5_bring_J65
  refine g_cVN hC 68 2 [.int (fI as1), .int (fI as0)] [] (cn_X2_hasRoom l P4 hP4 as1 as0 _) rfl rfl (tb_H hP4) rfl gw_334 gw_337 gw_60 gw_336 gw_13 (by decide +kernel) rfl ⟨Nat.le_of_ble_eq_true rfl, Nat.le_of_ble_eq_true rfl⟩ (Nat.le_of_ble_eq_true rfl) ⟨Nat.zero_le _, Nat.zero_le _⟩ dX5_bring_65 rfl (fun v9 => .int (fI v9) :: []) (fun _ => rfl) (fun v9 M10 => ?_)
  refine g_if_ne hC 74 71 dX5_bring_68 rfl rfl ?_ ?_
  · refine g_iload hC 4 76 rfl dX5_bring_74 rfl ?_
    refine g_if_eq hC 88 79 dX5_bring_76 rfl rfl ?_ ?_
    · exact wk_X5_bring_J88 hC hr hk _ hP4 _ _ _ _
    · refine g_aload hC 3 81 rfl dX5_bring_79 rfl ?_
      refine g_iconst hC 82 dX5_bring_81 rfl ?_
      refine g_lload_n hC 2 83 rfl dX5_bring_82 rfl rfl ?_
      refine g_iconst hC 84 dX5_bring_83 rfl ?_
      refine g_cVN hC 87 3 [.int (fI 0), .long (fL a2), .int (fI 0)] [] (cn_X2_append l P4 hP4 0 a2 0 _) rfl rfl (tb_H hP4) rfl gw_344 gw_347 gw_60 gw_346 gw_14 (by decide +kernel) rfl ⟨Nat.le_of_ble_eq_true rfl, Nat.le_of_ble_eq_true rfl⟩ (Nat.le_of_ble_eq_true rfl) ⟨Nat.zero_le _, Nat.zero_le _⟩ dX5_bring_84 rfl (fun v19 => .int (fI v19) :: []) (fun _ => rfl) (fun v19 M20 => ?_)
      refine g_pop hC 88 dX5_bring_87 rfl rfl ?_
      exact wk_X5_bring_J88 hC hr hk _ hP4 _ _ _ _
  · refine g_bipush hC 73 dX5_bring_71 rfl (by decide +kernel) ?_
    exact g_ireturn hC hr hk dX5_bring_73
def dn_X5_bring_J51 (P4 : Nat) (a1 a2 a5 as0 : Int) (M : fMem) : fOp :=
  fGt M P4 11 (fun x8 => fEq x8 (-1) (dn_X5_bring_J65 P4 a1 a2 a5 1 as0 M) (dn_X5_bring_J65 P4 a1 a2 a5 0 as0 M))
set_option maxRecDepth 100000 in
set_option maxHeartbeats 4000000 in
theorem wk_X5_bring_J51 {l : Launch} {p : Program} {e : Env} {s : State} {m : MethodId} {args : Array Value} {below : List Frame} {meth : Method} {c : Code} {D : va_G} {aC : Nat → ClassId} {ad : Nat → Nat} (hC : fCx p s m args c vwCl D aC TB ad (fFr ad TB) goodTs cX5_bring RX5 6) (hr : meth.sig.returnType = some .int) (hk : meth.locks = false) (P4 : Nat) (hP4 : fIsH P4) (a1 a2 a5 as0 : Int)  (M : fMem) : GM l p e s m args below meth c D aC ad 6 2 47 0 51 [(0, .ref (ad 0)), (1, .int (fI a1)), (2, .long (fL a2)), (4, .ref (ad P4)), (5, .int (fI a5))] [.int (fI as0), .ref (ad P4)] M (dn_X5_bring_J51 P4 a1 a2 a5 as0 M) := by
  unfold dn_X5_bring_J51
  refine g_aload hC 3 53 rfl dX5_bring_51 rfl ?_
  refine g_getIN hC 56 inX2 rfl 11 (by decide) gw_101 rfl (tb_H hP4) rfl dX5_bring_53 rfl (fun x8 => ?_)
  refine g_iconst hC 57 dX5_bring_56 rfl ?_
  refine g_icmp_ne hC 64 60 dX5_bring_57 rfl rfl ?_ ?_
  · refine g_iconst hC 65 dX5_bring_64 rfl ?_
    exact wk_X5_bring_J65 hC hr hk _ hP4 _ _ _ _ _ _
  · refine g_iconst hC 61 dX5_bring_60 rfl ?_
    refine g_goto hC 65 dX5_bring_61 rfl ?_
    exact wk_X5_bring_J65 hC hr hk _ hP4 _ _ _ _ _ _
def dn_X5_bring_J37 (P4 : Nat) (a1 a2 as0 : Int) (M : fMem) : fOp :=
  fEq as0 0 (dn_X5_bring_J51 P4 a1 a2 as0 1 M) (dn_X5_bring_J51 P4 a1 a2 as0 2 M)
set_option maxRecDepth 100000 in
set_option maxHeartbeats 4000000 in
theorem wk_X5_bring_J37 {l : Launch} {p : Program} {e : Env} {s : State} {m : MethodId} {args : Array Value} {below : List Frame} {meth : Method} {c : Code} {D : va_G} {aC : Nat → ClassId} {ad : Nat → Nat} (hC : fCx p s m args c vwCl D aC TB ad (fFr ad TB) goodTs cX5_bring RX5 6) (hr : meth.sig.returnType = some .int) (hk : meth.locks = false) (P4 : Nat) (hP4 : fIsH P4) (a1 a2 as0 : Int)  (M : fMem) : GM l p e s m args below meth c D aC ad 6 2 47 0 37 [(0, .ref (ad 0)), (1, .int (fI a1)), (2, .long (fL a2)), (4, .ref (ad P4))] [.int (fI as0)] M (dn_X5_bring_J37 P4 a1 a2 as0 M) := by
  unfold dn_X5_bring_J37
  refine g_istore hC 39 [(5, .int (fI as0)), (0, .ref (ad 0)), (1, .int (fI a1)), (2, .long (fL a2)), (4, .ref (ad P4))] dX5_bring_37 (by decide) rfl rfl ?_
  refine g_aload hC 4 41 rfl dX5_bring_39 rfl ?_
  refine g_iload hC 0 43 rfl dX5_bring_41 rfl ?_
  refine g_if_eq hC 50 46 dX5_bring_43 rfl rfl ?_ ?_
  · refine g_iconst hC 51 dX5_bring_50 rfl ?_
    refine g_lv [1, 2, 3, 4, 0] rfl ?_
    exact wk_X5_bring_J51 hC hr hk _ hP4 _ _ _ _ _
  · refine g_iconst hC 47 dX5_bring_46 rfl ?_
    refine g_goto hC 51 dX5_bring_47 rfl ?_
    refine g_lv [1, 2, 3, 4, 0] rfl ?_
    exact wk_X5_bring_J51 hC hr hk _ hP4 _ _ _ _ _
def dn_X5_bring (a1 : Int) (a2 : Int) (M : fMem) : fOp :=
  fCl (dn_X5_isFile a1 M) (fun v1 M2 => fEq v1 0 (some ((-1), M2)) (fCl (dn_X4_isClean a2 M2) (fun v3 M4 => fEq v3 0 (some ((-1), M4)) (fIx 4 2 11 a1 (fun P5 => fCl (dn_X2_isThere P5 M4) (fun v6 M7 => fEq v6 0 (dn_X5_bring_J37 P5 a1 a2 1 M7) (dn_X5_bring_J37 P5 a1 a2 0 M7)))))))
set_option maxRecDepth 100000 in
set_option maxHeartbeats 4000000 in
theorem wk_X5_bring {l : Launch} {p : Program} {e : Env} {s : State} {m : MethodId} {args : Array Value} {below : List Frame} {meth : Method} {c : Code} {D : va_G} {aC : Nat → ClassId} {ad : Nat → Nat} (hC : fCx p s m args c vwCl D aC TB ad (fFr ad TB) goodTs cX5_bring RX5 6) (hr : meth.sig.returnType = some .int) (hk : meth.locks = false) (a1 : Int) (a2 : Int) (M : fMem) : GM l p e s m args below meth c D aC ad 6 2 47 0 0 [(0, .ref (ad 0)), (1, .int (fI a1)), (2, .long (fL a2))] [] M (dn_X5_bring a1 a2 M) := by
  unfold dn_X5_bring
  refine g_iload_n hC 1 1 rfl dX5_bring_0 rfl rfl ?_
  refine g_cS hC 4 1 [.int (fI a1)] [] (cn_X5_isFile l a1 _) rfl rfl gw_246 gw_248 gw_59 gw_247 (by decide +kernel) rfl ⟨Nat.le_of_ble_eq_true rfl, Nat.le_of_ble_eq_true rfl⟩ (Nat.le_of_ble_eq_true rfl) ⟨Nat.zero_le _, Nat.zero_le _⟩ dX5_bring_1 rfl (fun v1 => .int (fI v1) :: []) (fun _ => rfl) (fun v1 M2 => ?_)
  refine g_if_eq hC 14 7 dX5_bring_4 rfl rfl ?_ ?_
  · refine g_iconst hC 15 dX5_bring_14 rfl ?_
    exact g_ireturn hC hr hk dX5_bring_15
  · refine g_lload_n hC 2 8 rfl dX5_bring_7 rfl rfl ?_
    refine g_cSN hC 11 1 [.long (fL a2)] [] (cn_X4_isClean l a2 _) rfl rfl gw_257 gw_259 gw_66 gw_258 (by decide +kernel) rfl ⟨Nat.le_of_ble_eq_true rfl, Nat.le_of_ble_eq_true rfl⟩ (Nat.le_of_ble_eq_true rfl) ⟨Nat.zero_le _, Nat.zero_le _⟩ dX5_bring_8 rfl (fun v3 => .int (fI v3) :: []) (fun _ => rfl) (fun v3 M4 => ?_)
    refine g_if_ne hC 16 14 dX5_bring_11 rfl rfl ?_ ?_
    · refine g_aload_n hC 0 17 rfl dX5_bring_16 rfl rfl ?_
      refine g_getA hC 20 inX5 rfl 0 (by decide) gw_223 rfl tb_RS rfl dX5_bring_17 rfl ?_
      refine g_iload_n hC 1 21 rfl dX5_bring_20 rfl rfl ?_
      refine g_aald hC 4 2 11 22 tb_HA rfl tb_HA_q rfl (by decide) dX5_bring_21 rfl (fun P5 hP5 => ?_)
      replace hP5 := fIsH_of hP5
      refine g_astore hC 24 [(4, .ref (ad P5)), (0, .ref (ad 0)), (1, .int (fI a1)), (2, .long (fL a2))] dX5_bring_22 (by decide) rfl rfl ?_
      refine g_aload hC 0 26 rfl dX5_bring_24 rfl ?_
      refine g_cVN hC 29 0 [] [] (cn_X2_isThere l P5 hP5 _) rfl rfl (tb_H hP5) rfl gw_315 gw_318 gw_60 gw_317 gw_10 (by decide +kernel) rfl ⟨Nat.le_of_ble_eq_true rfl, Nat.le_of_ble_eq_true rfl⟩ (Nat.le_of_ble_eq_true rfl) ⟨Nat.zero_le _, Nat.zero_le _⟩ dX5_bring_26 rfl (fun v6 => .int (fI v6) :: []) (fun _ => rfl) (fun v6 M7 => ?_)
      refine g_if_ne hC 36 32 dX5_bring_29 rfl rfl ?_ ?_
      · refine g_iconst hC 37 dX5_bring_36 rfl ?_
        refine g_lv [1, 2, 3, 0] rfl ?_
        exact wk_X5_bring_J37 hC hr hk _ hP5 _ _ _ _
      · refine g_iconst hC 33 dX5_bring_32 rfl ?_
        refine g_goto hC 37 dX5_bring_33 rfl ?_
        refine g_lv [1, 2, 3, 0] rfl ?_
        exact wk_X5_bring_J37 hC hr hk _ hP5 _ _ _ _
    · refine g_iconst hC 15 dX5_bring_14 rfl ?_
      exact g_ireturn hC hr hk dX5_bring_15
theorem cn_X5_bring (l : Launch) (a1 : Int) (a2 : Int) (M : fMem) : fMt l vwCl TB yX5_bring cX5_bring 6 (some .int) 2 47 0 (fun ad => [.ref (ad 0), .int (fI a1), .long (fL a2)]) M (dn_X5_bring a1 a2 M) :=
  fMt.of (by decide +kernel) (fun _ => Nat.le_of_ble_eq_true rfl) (fun p e s m args below meth c D aC ad hC hr hk => wk_X5_bring hC hr hk a1 a2 M)
def dn_X5_entry (a1 : Int) (a2 : Int) (M : fMem) : fOp :=
  fCl (dn_X5_isClient a1 M) (fun v1 M2 => fEq v1 0 (some ((-1), M2)) (fCl (dn_X5_isFile a2 M2) (fun v3 M4 => fEq v3 0 (some ((-1), M4)) (fCl (dn_X5_copyOf a1 a2 M4) (fun v5 M6 => fCk v5 (fun P7 => fGt M6 P7 0 (fun x8 => some (x8, M6))))))))
set_option maxRecDepth 100000 in
set_option maxHeartbeats 4000000 in
theorem wk_X5_entry {l : Launch} {p : Program} {e : Env} {s : State} {m : MethodId} {args : Array Value} {below : List Frame} {meth : Method} {c : Code} {D : va_G} {aC : Nat → ClassId} {ad : Nat → Nat} (hC : fCx p s m args c vwCl D aC TB ad (fFr ad TB) goodTs cX5_entry RX5 3) (hr : meth.sig.returnType = some .int) (hk : meth.locks = false) (a1 : Int) (a2 : Int) (M : fMem) : GM l p e s m args below meth c D aC ad 3 1 22 0 0 [(0, .ref (ad 0)), (1, .int (fI a1)), (2, .int (fI a2))] [] M (dn_X5_entry a1 a2 M) := by
  unfold dn_X5_entry
  refine g_iload_n hC 1 1 rfl dX5_entry_0 rfl rfl ?_
  refine g_cS hC 4 1 [.int (fI a1)] [] (cn_X5_isClient l a1 _) rfl rfl gw_243 gw_245 gw_59 gw_244 (by decide +kernel) rfl ⟨Nat.le_of_ble_eq_true rfl, Nat.le_of_ble_eq_true rfl⟩ (Nat.le_of_ble_eq_true rfl) ⟨Nat.zero_le _, Nat.zero_le _⟩ dX5_entry_1 rfl (fun v1 => .int (fI v1) :: []) (fun _ => rfl) (fun v1 M2 => ?_)
  refine g_if_eq hC 26 7 dX5_entry_4 rfl rfl ?_ ?_
  · refine g_iconst hC 27 dX5_entry_26 rfl ?_
    exact g_ireturn hC hr hk dX5_entry_27
  · refine g_iload_n hC 2 8 rfl dX5_entry_7 rfl rfl ?_
    refine g_cS hC 11 1 [.int (fI a2)] [] (cn_X5_isFile l a2 _) rfl rfl gw_246 gw_248 gw_59 gw_247 (by decide +kernel) rfl ⟨Nat.le_of_ble_eq_true rfl, Nat.le_of_ble_eq_true rfl⟩ (Nat.le_of_ble_eq_true rfl) ⟨Nat.zero_le _, Nat.zero_le _⟩ dX5_entry_8 rfl (fun v3 => .int (fI v3) :: []) (fun _ => rfl) (fun v3 M4 => ?_)
    refine g_if_eq hC 26 14 dX5_entry_11 rfl rfl ?_ ?_
    · refine g_iconst hC 27 dX5_entry_26 rfl ?_
      exact g_ireturn hC hr hk dX5_entry_27
    · refine g_aload_n hC 0 15 rfl dX5_entry_14 rfl rfl ?_
      refine g_iload_n hC 1 16 rfl dX5_entry_15 rfl rfl ?_
      refine g_iload_n hC 2 17 rfl dX5_entry_16 rfl rfl ?_
      refine g_cV hC 20 2 [.int (fI a1), .int (fI a2)] [] (cn_X5_copyOf l a1 a2 _) rfl rfl tb_RS rfl gw_249 gw_252 gw_59 gw_251 gw_0 (by decide +kernel) rfl ⟨Nat.le_of_ble_eq_true rfl, Nat.le_of_ble_eq_true rfl⟩ (Nat.le_of_ble_eq_true rfl) ⟨Nat.zero_le _, Nat.zero_le _⟩ dX5_entry_17 rfl (fun v5 => .ref (ad v5.toNat) :: []) (fun _ => rfl) (fun v5 M6 => ?_)
      refine g_ck (fun P7 hP7 => ?_)
      refine g_getIN hC 23 inX0 rfl 0 (by decide) gw_146 rfl (tb_C hP7) rfl dX5_entry_20 rfl (fun x8 => ?_)
      refine g_goto hC 27 dX5_entry_23 rfl ?_
      exact g_ireturn hC hr hk dX5_entry_27
theorem cn_X5_entry (l : Launch) (a1 : Int) (a2 : Int) (M : fMem) : fMt l vwCl TB yX5_entry cX5_entry 3 (some .int) 1 22 0 (fun ad => [.ref (ad 0), .int (fI a1), .int (fI a2)]) M (dn_X5_entry a1 a2 M) :=
  fMt.of (by decide +kernel) (fun _ => Nat.le_of_ble_eq_true rfl) (fun p e s m args below meth c D aC ad hC hr hk => wk_X5_entry hC hr hk a1 a2 M)
def dn_X5_removed (a1 : Int) (a2 : Int) (M : fMem) : fOp :=
  fCl (dn_X5_isClient a1 M) (fun v1 M2 => fEq v1 0 (fRz 0 M2) (fCl (dn_X5_isFile a2 M2) (fun v3 M4 => fEq v3 0 (fRz 0 M4) (fCl (dn_X5_copyOf a1 a2 M4) (fun v5 M6 => fCk v5 (fun P7 => fGt M6 P7 1 (fun x8 => fEq x8 0 (fRz 0 M6) (fRz 1 M6))))))))
set_option maxRecDepth 100000 in
set_option maxHeartbeats 4000000 in
theorem wk_X5_removed {l : Launch} {p : Program} {e : Env} {s : State} {m : MethodId} {args : Array Value} {below : List Frame} {meth : Method} {c : Code} {D : va_G} {aC : Nat → ClassId} {ad : Nat → Nat} (hC : fCx p s m args c vwCl D aC TB ad (fFr ad TB) goodTs cX5_removed RX5 3) (hr : meth.sig.returnType = some .boolean) (hk : meth.locks = false) (a1 : Int) (a2 : Int) (M : fMem) : GM l p e s m args below meth c D aC ad 3 1 22 0 0 [(0, .ref (ad 0)), (1, .int (fI a1)), (2, .int (fI a2))] [] M (dn_X5_removed a1 a2 M) := by
  unfold dn_X5_removed
  refine g_iload_n hC 1 1 rfl dX5_removed_0 rfl rfl ?_
  refine g_cS hC 4 1 [.int (fI a1)] [] (cn_X5_isClient l a1 _) rfl rfl gw_243 gw_245 gw_59 gw_244 (by decide +kernel) rfl ⟨Nat.le_of_ble_eq_true rfl, Nat.le_of_ble_eq_true rfl⟩ (Nat.le_of_ble_eq_true rfl) ⟨Nat.zero_le _, Nat.zero_le _⟩ dX5_removed_1 rfl (fun v1 => .int (fI v1) :: []) (fun _ => rfl) (fun v1 M2 => ?_)
  refine g_if_eq hC 30 7 dX5_removed_4 rfl rfl ?_ ?_
  · refine g_iconst hC 31 dX5_removed_30 rfl ?_
    exact g_zreturn hC hr hk dX5_removed_31
  · refine g_iload_n hC 2 8 rfl dX5_removed_7 rfl rfl ?_
    refine g_cS hC 11 1 [.int (fI a2)] [] (cn_X5_isFile l a2 _) rfl rfl gw_246 gw_248 gw_59 gw_247 (by decide +kernel) rfl ⟨Nat.le_of_ble_eq_true rfl, Nat.le_of_ble_eq_true rfl⟩ (Nat.le_of_ble_eq_true rfl) ⟨Nat.zero_le _, Nat.zero_le _⟩ dX5_removed_8 rfl (fun v3 => .int (fI v3) :: []) (fun _ => rfl) (fun v3 M4 => ?_)
    refine g_if_eq hC 30 14 dX5_removed_11 rfl rfl ?_ ?_
    · refine g_iconst hC 31 dX5_removed_30 rfl ?_
      exact g_zreturn hC hr hk dX5_removed_31
    · refine g_aload_n hC 0 15 rfl dX5_removed_14 rfl rfl ?_
      refine g_iload_n hC 1 16 rfl dX5_removed_15 rfl rfl ?_
      refine g_iload_n hC 2 17 rfl dX5_removed_16 rfl rfl ?_
      refine g_cV hC 20 2 [.int (fI a1), .int (fI a2)] [] (cn_X5_copyOf l a1 a2 _) rfl rfl tb_RS rfl gw_249 gw_252 gw_59 gw_251 gw_0 (by decide +kernel) rfl ⟨Nat.le_of_ble_eq_true rfl, Nat.le_of_ble_eq_true rfl⟩ (Nat.le_of_ble_eq_true rfl) ⟨Nat.zero_le _, Nat.zero_le _⟩ dX5_removed_17 rfl (fun v5 => .ref (ad v5.toNat) :: []) (fun _ => rfl) (fun v5 M6 => ?_)
      refine g_ck (fun P7 hP7 => ?_)
      refine g_getIN hC 23 inX0 rfl 1 (by decide) gw_148 rfl (tb_C hP7) rfl dX5_removed_20 rfl (fun x8 => ?_)
      refine g_if_eq hC 30 26 dX5_removed_23 rfl rfl ?_ ?_
      · refine g_iconst hC 31 dX5_removed_30 rfl ?_
        exact g_zreturn hC hr hk dX5_removed_31
      · refine g_iconst hC 27 dX5_removed_26 rfl ?_
        refine g_goto hC 31 dX5_removed_27 rfl ?_
        exact g_zreturn hC hr hk dX5_removed_31
theorem cn_X5_removed (l : Launch) (a1 : Int) (a2 : Int) (M : fMem) : fMt l vwCl TB yX5_removed cX5_removed 3 (some .boolean) 1 22 0 (fun ad => [.ref (ad 0), .int (fI a1), .int (fI a2)]) M (dn_X5_removed a1 a2 M) :=
  fMt.of (by decide +kernel) (fun _ => Nat.le_of_ble_eq_true rfl) (fun p e s m args below meth c D aC ad hC hr hk => wk_X5_removed hC hr hk a1 a2 M)
def dn_X5_local (a1 : Int) (a2 : Int) (M : fMem) : fOp :=
  fCl (dn_X5_isClient a1 M) (fun v1 M2 => fEq v1 0 (some ((-1), M2)) (fCl (dn_X5_isFile a2 M2) (fun v3 M4 => fEq v3 0 (some ((-1), M4)) (fCl (dn_X5_copyOf a1 a2 M4) (fun v5 M6 => fCk v5 (fun P7 => fCl (dn_X0_hasText P7 M6) (fun v8 M9 => fEq v8 0 (some ((-1), M9)) (fGt M9 P7 2 (fun x10 => some (x10, M9))))))))))
set_option maxRecDepth 100000 in
set_option maxHeartbeats 4000000 in
theorem wk_X5_local {l : Launch} {p : Program} {e : Env} {s : State} {m : MethodId} {args : Array Value} {below : List Frame} {meth : Method} {c : Code} {D : va_G} {aC : Nat → ClassId} {ad : Nat → Nat} (hC : fCx p s m args c vwCl D aC TB ad (fFr ad TB) goodTs cX5_local RX5 4) (hr : meth.sig.returnType = some .long) (hk : meth.locks = false) (a1 : Int) (a2 : Int) (M : fMem) : GM l p e s m args below meth c D aC ad 4 2 40 1 0 [(0, .ref (ad 0)), (1, .int (fI a1)), (2, .int (fI a2))] [] M (dn_X5_local a1 a2 M) := by
  unfold dn_X5_local
  refine g_iload_n hC 1 1 rfl dX5_local_0 rfl rfl ?_
  refine g_cS hC 4 1 [.int (fI a1)] [] (cn_X5_isClient l a1 _) rfl rfl gw_243 gw_245 gw_59 gw_244 (by decide +kernel) rfl ⟨Nat.le_of_ble_eq_true rfl, Nat.le_of_ble_eq_true rfl⟩ (Nat.le_of_ble_eq_true rfl) ⟨Nat.zero_le _, Nat.zero_le _⟩ dX5_local_1 rfl (fun v1 => .int (fI v1) :: []) (fun _ => rfl) (fun v1 M2 => ?_)
  refine g_if_eq hC 14 7 dX5_local_4 rfl rfl ?_ ?_
  · refine g_ldc2 hC (-1) 17 gw_458 dX5_local_14 rfl ?_
    exact g_lreturn hC hr hk dX5_local_17
  · refine g_iload_n hC 2 8 rfl dX5_local_7 rfl rfl ?_
    refine g_cS hC 11 1 [.int (fI a2)] [] (cn_X5_isFile l a2 _) rfl rfl gw_246 gw_248 gw_59 gw_247 (by decide +kernel) rfl ⟨Nat.le_of_ble_eq_true rfl, Nat.le_of_ble_eq_true rfl⟩ (Nat.le_of_ble_eq_true rfl) ⟨Nat.zero_le _, Nat.zero_le _⟩ dX5_local_8 rfl (fun v3 => .int (fI v3) :: []) (fun _ => rfl) (fun v3 M4 => ?_)
    refine g_if_ne hC 18 14 dX5_local_11 rfl rfl ?_ ?_
    · refine g_aload_n hC 0 19 rfl dX5_local_18 rfl rfl ?_
      refine g_iload_n hC 1 20 rfl dX5_local_19 rfl rfl ?_
      refine g_iload_n hC 2 21 rfl dX5_local_20 rfl rfl ?_
      refine g_cV hC 24 2 [.int (fI a1), .int (fI a2)] [] (cn_X5_copyOf l a1 a2 _) rfl rfl tb_RS rfl gw_249 gw_252 gw_59 gw_251 gw_0 (by decide +kernel) rfl ⟨Nat.le_of_ble_eq_true rfl, Nat.le_of_ble_eq_true rfl⟩ (Nat.le_of_ble_eq_true rfl) ⟨Nat.zero_le _, Nat.zero_le _⟩ dX5_local_21 rfl (fun v5 => .ref (ad v5.toNat) :: []) (fun _ => rfl) (fun v5 M6 => ?_)
      refine g_ck (fun P7 hP7 => ?_)
      refine g_astore_n hC 25 [(3, .ref (ad P7)), (0, .ref (ad 0)), (1, .int (fI a1)), (2, .int (fI a2))] dX5_local_24 rfl (by decide) rfl rfl ?_
      refine g_aload_n hC 0 26 rfl dX5_local_25 rfl rfl ?_
      refine g_cVN hC 29 0 [] [] (cn_X0_hasText l P7 hP7 _) rfl rfl (tb_C hP7) rfl gw_277 gw_280 gw_62 gw_279 gw_3 (by decide +kernel) rfl ⟨Nat.le_of_ble_eq_true rfl, Nat.le_of_ble_eq_true rfl⟩ (Nat.le_of_ble_eq_true rfl) ⟨Nat.zero_le _, Nat.zero_le _⟩ dX5_local_26 rfl (fun v8 => .int (fI v8) :: []) (fun _ => rfl) (fun v8 M9 => ?_)
      refine g_if_eq hC 39 32 dX5_local_29 rfl rfl ?_ ?_
      · refine g_ldc2 hC (-1) 42 gw_458 dX5_local_39 rfl ?_
        exact g_lreturn hC hr hk dX5_local_42
      · refine g_aload_n hC 0 33 rfl dX5_local_32 rfl rfl ?_
        refine g_getJN hC 36 inX0 rfl 2 (by decide) gw_150 rfl (tb_C hP7) rfl dX5_local_33 rfl (fun x10 => ?_)
        refine g_goto hC 42 dX5_local_36 rfl ?_
        exact g_lreturn hC hr hk dX5_local_42
    · refine g_ldc2 hC (-1) 17 gw_458 dX5_local_14 rfl ?_
      exact g_lreturn hC hr hk dX5_local_17
theorem cn_X5_local (l : Launch) (a1 : Int) (a2 : Int) (M : fMem) : fMt l vwCl TB yX5_local cX5_local 4 (some .long) 2 40 1 (fun ad => [.ref (ad 0), .int (fI a1), .int (fI a2)]) M (dn_X5_local a1 a2 M) :=
  fMt.of (by decide +kernel) (fun _ => Nat.le_of_ble_eq_true rfl) (fun p e s m args below meth c D aC ad hC hr hk => wk_X5_local hC hr hk a1 a2 M)
def dn_X5_selected (a1 : Int) (a2 : Int) (M : fMem) : fOp :=
  fCl (dn_X5_isClient a1 M) (fun v1 M2 => fEq v1 0 (some ((-1), M2)) (fCl (dn_X5_isFile a2 M2) (fun v3 M4 => fEq v3 0 (some ((-1), M4)) (fIx 4 2 11 a2 (fun P5 => fCl (dn_X5_copyOf a1 a2 M4) (fun v6 M7 => fCk v6 (fun P8 => fGt M7 P8 3 (fun x9 => fCl (dn_X5_selectedBy P5 x9 M7) (fun v10 M11 => some (v10, M11))))))))))
set_option maxRecDepth 100000 in
set_option maxHeartbeats 4000000 in
theorem wk_X5_selected {l : Launch} {p : Program} {e : Env} {s : State} {m : MethodId} {args : Array Value} {below : List Frame} {meth : Method} {c : Code} {D : va_G} {aC : Nat → ClassId} {ad : Nat → Nat} (hC : fCx p s m args c vwCl D aC TB ad (fFr ad TB) goodTs cX5_selected RX5 3) (hr : meth.sig.returnType = some .int) (hk : meth.locks = false) (a1 : Int) (a2 : Int) (M : fMem) : GM l p e s m args below meth c D aC ad 3 2 44 0 0 [(0, .ref (ad 0)), (1, .int (fI a1)), (2, .int (fI a2))] [] M (dn_X5_selected a1 a2 M) := by
  unfold dn_X5_selected
  refine g_iload_n hC 1 1 rfl dX5_selected_0 rfl rfl ?_
  refine g_cS hC 4 1 [.int (fI a1)] [] (cn_X5_isClient l a1 _) rfl rfl gw_243 gw_245 gw_59 gw_244 (by decide +kernel) rfl ⟨Nat.le_of_ble_eq_true rfl, Nat.le_of_ble_eq_true rfl⟩ (Nat.le_of_ble_eq_true rfl) ⟨Nat.zero_le _, Nat.zero_le _⟩ dX5_selected_1 rfl (fun v1 => .int (fI v1) :: []) (fun _ => rfl) (fun v1 M2 => ?_)
  refine g_if_eq hC 14 7 dX5_selected_4 rfl rfl ?_ ?_
  · refine g_iconst hC 15 dX5_selected_14 rfl ?_
    exact g_ireturn hC hr hk dX5_selected_15
  · refine g_iload_n hC 2 8 rfl dX5_selected_7 rfl rfl ?_
    refine g_cS hC 11 1 [.int (fI a2)] [] (cn_X5_isFile l a2 _) rfl rfl gw_246 gw_248 gw_59 gw_247 (by decide +kernel) rfl ⟨Nat.le_of_ble_eq_true rfl, Nat.le_of_ble_eq_true rfl⟩ (Nat.le_of_ble_eq_true rfl) ⟨Nat.zero_le _, Nat.zero_le _⟩ dX5_selected_8 rfl (fun v3 => .int (fI v3) :: []) (fun _ => rfl) (fun v3 M4 => ?_)
    refine g_if_ne hC 16 14 dX5_selected_11 rfl rfl ?_ ?_
    · refine g_aload_n hC 0 17 rfl dX5_selected_16 rfl rfl ?_
      refine g_aload_n hC 0 18 rfl dX5_selected_17 rfl rfl ?_
      refine g_getA hC 21 inX5 rfl 0 (by decide) gw_223 rfl tb_RS rfl dX5_selected_18 rfl ?_
      refine g_iload_n hC 2 22 rfl dX5_selected_21 rfl rfl ?_
      refine g_aald hC 4 2 11 23 tb_HA rfl tb_HA_q rfl (by decide) dX5_selected_22 rfl (fun P5 hP5 => ?_)
      replace hP5 := fIsH_of hP5
      refine g_aload_n hC 0 24 rfl dX5_selected_23 rfl rfl ?_
      refine g_iload_n hC 1 25 rfl dX5_selected_24 rfl rfl ?_
      refine g_iload_n hC 2 26 rfl dX5_selected_25 rfl rfl ?_
      refine g_cV hC 29 2 [.int (fI a1), .int (fI a2)] [.ref (ad P5), .ref (ad 0)] (cn_X5_copyOf l a1 a2 _) rfl rfl tb_RS rfl gw_249 gw_252 gw_59 gw_251 gw_0 (by decide +kernel) rfl ⟨Nat.le_of_ble_eq_true rfl, Nat.le_of_ble_eq_true rfl⟩ (Nat.le_of_ble_eq_true rfl) ⟨Nat.zero_le _, Nat.zero_le _⟩ dX5_selected_26 rfl (fun v6 => .ref (ad v6.toNat) :: [.ref (ad P5), .ref (ad 0)]) (fun _ => rfl) (fun v6 M7 => ?_)
      refine g_ck (fun P8 hP8 => ?_)
      refine g_getIN hC 32 inX0 rfl 3 (by decide) gw_152 rfl (tb_C hP8) rfl dX5_selected_29 rfl (fun x9 => ?_)
      refine g_cV hC 35 2 [.ref (ad P5), .int (fI x9)] [] (cn_X5_selectedBy l P5 hP5 x9 _) rfl rfl tb_RS rfl gw_311 gw_314 gw_59 gw_313 gw_9 (by decide +kernel) rfl ⟨Nat.le_of_ble_eq_true rfl, Nat.le_of_ble_eq_true rfl⟩ (Nat.le_of_ble_eq_true rfl) ⟨Nat.zero_le _, Nat.zero_le _⟩ dX5_selected_32 rfl (fun v10 => .int (fI v10) :: []) (fun _ => rfl) (fun v10 M11 => ?_)
      exact g_ireturn hC hr hk dX5_selected_35
    · refine g_iconst hC 15 dX5_selected_14 rfl ?_
      exact g_ireturn hC hr hk dX5_selected_15
theorem cn_X5_selected (l : Launch) (a1 : Int) (a2 : Int) (M : fMem) : fMt l vwCl TB yX5_selected cX5_selected 3 (some .int) 2 44 0 (fun ad => [.ref (ad 0), .int (fI a1), .int (fI a2)]) M (dn_X5_selected a1 a2 M) :=
  fMt.of (by decide +kernel) (fun _ => Nat.le_of_ble_eq_true rfl) (fun p e s m args below meth c D aC ad hC hr hk => wk_X5_selected hC hr hk a1 a2 M)
def dn_X5_sticky (a1 : Int) (a2 : Int) (M : fMem) : fOp :=
  fCl (dn_X5_isClient a1 M) (fun v1 M2 => fEq v1 0 (some ((-1), M2)) (fCl (dn_X5_isFile a2 M2) (fun v3 M4 => fEq v3 0 (some ((-1), M4)) (fCl (dn_X5_copyOf a1 a2 M4) (fun v5 M6 => fCk v5 (fun P7 => fGt M6 P7 3 (fun x8 => some (x8, M6))))))))
set_option maxRecDepth 100000 in
set_option maxHeartbeats 4000000 in
theorem wk_X5_sticky {l : Launch} {p : Program} {e : Env} {s : State} {m : MethodId} {args : Array Value} {below : List Frame} {meth : Method} {c : Code} {D : va_G} {aC : Nat → ClassId} {ad : Nat → Nat} (hC : fCx p s m args c vwCl D aC TB ad (fFr ad TB) goodTs cX5_sticky RX5 3) (hr : meth.sig.returnType = some .int) (hk : meth.locks = false) (a1 : Int) (a2 : Int) (M : fMem) : GM l p e s m args below meth c D aC ad 3 1 22 0 0 [(0, .ref (ad 0)), (1, .int (fI a1)), (2, .int (fI a2))] [] M (dn_X5_sticky a1 a2 M) := by
  unfold dn_X5_sticky
  refine g_iload_n hC 1 1 rfl dX5_sticky_0 rfl rfl ?_
  refine g_cS hC 4 1 [.int (fI a1)] [] (cn_X5_isClient l a1 _) rfl rfl gw_243 gw_245 gw_59 gw_244 (by decide +kernel) rfl ⟨Nat.le_of_ble_eq_true rfl, Nat.le_of_ble_eq_true rfl⟩ (Nat.le_of_ble_eq_true rfl) ⟨Nat.zero_le _, Nat.zero_le _⟩ dX5_sticky_1 rfl (fun v1 => .int (fI v1) :: []) (fun _ => rfl) (fun v1 M2 => ?_)
  refine g_if_eq hC 26 7 dX5_sticky_4 rfl rfl ?_ ?_
  · refine g_iconst hC 27 dX5_sticky_26 rfl ?_
    exact g_ireturn hC hr hk dX5_sticky_27
  · refine g_iload_n hC 2 8 rfl dX5_sticky_7 rfl rfl ?_
    refine g_cS hC 11 1 [.int (fI a2)] [] (cn_X5_isFile l a2 _) rfl rfl gw_246 gw_248 gw_59 gw_247 (by decide +kernel) rfl ⟨Nat.le_of_ble_eq_true rfl, Nat.le_of_ble_eq_true rfl⟩ (Nat.le_of_ble_eq_true rfl) ⟨Nat.zero_le _, Nat.zero_le _⟩ dX5_sticky_8 rfl (fun v3 => .int (fI v3) :: []) (fun _ => rfl) (fun v3 M4 => ?_)
    refine g_if_eq hC 26 14 dX5_sticky_11 rfl rfl ?_ ?_
    · refine g_iconst hC 27 dX5_sticky_26 rfl ?_
      exact g_ireturn hC hr hk dX5_sticky_27
    · refine g_aload_n hC 0 15 rfl dX5_sticky_14 rfl rfl ?_
      refine g_iload_n hC 1 16 rfl dX5_sticky_15 rfl rfl ?_
      refine g_iload_n hC 2 17 rfl dX5_sticky_16 rfl rfl ?_
      refine g_cV hC 20 2 [.int (fI a1), .int (fI a2)] [] (cn_X5_copyOf l a1 a2 _) rfl rfl tb_RS rfl gw_249 gw_252 gw_59 gw_251 gw_0 (by decide +kernel) rfl ⟨Nat.le_of_ble_eq_true rfl, Nat.le_of_ble_eq_true rfl⟩ (Nat.le_of_ble_eq_true rfl) ⟨Nat.zero_le _, Nat.zero_le _⟩ dX5_sticky_17 rfl (fun v5 => .ref (ad v5.toNat) :: []) (fun _ => rfl) (fun v5 M6 => ?_)
      refine g_ck (fun P7 hP7 => ?_)
      refine g_getIN hC 23 inX0 rfl 3 (by decide) gw_152 rfl (tb_C hP7) rfl dX5_sticky_20 rfl (fun x8 => ?_)
      refine g_goto hC 27 dX5_sticky_23 rfl ?_
      exact g_ireturn hC hr hk dX5_sticky_27
theorem cn_X5_sticky (l : Launch) (a1 : Int) (a2 : Int) (M : fMem) : fMt l vwCl TB yX5_sticky cX5_sticky 3 (some .int) 1 22 0 (fun ad => [.ref (ad 0), .int (fI a1), .int (fI a2)]) M (dn_X5_sticky a1 a2 M) :=
  fMt.of (by decide +kernel) (fun _ => Nat.le_of_ble_eq_true rfl) (fun p e s m args below meth c D aC ad hC hr hk => wk_X5_sticky hC hr hk a1 a2 M)
def dn_X5_revisions (a1 : Int) (M : fMem) : fOp :=
  fCl (dn_X5_isFile a1 M) (fun v1 M2 => fEq v1 0 (some ((-1), M2)) (fIx 4 2 11 a1 (fun P3 => fGt M2 P3 5 (fun x4 => some (x4, M2)))))
set_option maxRecDepth 100000 in
set_option maxHeartbeats 4000000 in
theorem wk_X5_revisions {l : Launch} {p : Program} {e : Env} {s : State} {m : MethodId} {args : Array Value} {below : List Frame} {meth : Method} {c : Code} {D : va_G} {aC : Nat → ClassId} {ad : Nat → Nat} (hC : fCx p s m args c vwCl D aC TB ad (fFr ad TB) goodTs cX5_revisions RX5 2) (hr : meth.sig.returnType = some .int) (hk : meth.locks = false) (a1 : Int) (M : fMem) : GM l p e s m args below meth c D aC ad 2 1 20 0 0 [(0, .ref (ad 0)), (1, .int (fI a1))] [] M (dn_X5_revisions a1 M) := by
  unfold dn_X5_revisions
  refine g_iload_n hC 1 1 rfl dX5_revisions_0 rfl rfl ?_
  refine g_cS hC 4 1 [.int (fI a1)] [] (cn_X5_isFile l a1 _) rfl rfl gw_246 gw_248 gw_59 gw_247 (by decide +kernel) rfl ⟨Nat.le_of_ble_eq_true rfl, Nat.le_of_ble_eq_true rfl⟩ (Nat.le_of_ble_eq_true rfl) ⟨Nat.zero_le _, Nat.zero_le _⟩ dX5_revisions_1 rfl (fun v1 => .int (fI v1) :: []) (fun _ => rfl) (fun v1 M2 => ?_)
  refine g_if_eq hC 19 7 dX5_revisions_4 rfl rfl ?_ ?_
  · refine g_iconst hC 20 dX5_revisions_19 rfl ?_
    exact g_ireturn hC hr hk dX5_revisions_20
  · refine g_aload_n hC 0 8 rfl dX5_revisions_7 rfl rfl ?_
    refine g_getA hC 11 inX5 rfl 0 (by decide) gw_223 rfl tb_RS rfl dX5_revisions_8 rfl ?_
    refine g_iload_n hC 1 12 rfl dX5_revisions_11 rfl rfl ?_
    refine g_aald hC 4 2 11 13 tb_HA rfl tb_HA_q rfl (by decide) dX5_revisions_12 rfl (fun P3 hP3 => ?_)
    replace hP3 := fIsH_of hP3
    refine g_getIN hC 16 inX2 rfl 5 (by decide) gw_94 rfl (tb_H hP3) rfl dX5_revisions_13 rfl (fun x4 => ?_)
    refine g_goto hC 20 dX5_revisions_16 rfl ?_
    exact g_ireturn hC hr hk dX5_revisions_20
theorem cn_X5_revisions (l : Launch) (a1 : Int) (M : fMem) : fMt l vwCl TB yX5_revisions cX5_revisions 2 (some .int) 1 20 0 (fun ad => [.ref (ad 0), .int (fI a1)]) M (dn_X5_revisions a1 M) :=
  fMt.of (by decide +kernel) (fun _ => Nat.le_of_ble_eq_true rfl) (fun p e s m args below meth c D aC ad hC hr hk => wk_X5_revisions hC hr hk a1 M)
def dn_X5_isRevision (a1 : Int) (a2 : Int) (M : fMem) : fOp :=
  fCl (dn_X5_isFile a1 M) (fun v1 M2 => fEq v1 0 (fRz 0 M2) (fLt a2 0 (fRz 0 M2) (fIx 4 2 11 a1 (fun P3 => fGt M2 P3 5 (fun x4 => fLe x4 a2 (fRz 0 M2) (fRz 1 M2))))))
set_option maxRecDepth 100000 in
set_option maxHeartbeats 4000000 in
theorem wk_X5_isRevision {l : Launch} {p : Program} {e : Env} {s : State} {m : MethodId} {args : Array Value} {below : List Frame} {meth : Method} {c : Code} {D : va_G} {aC : Nat → ClassId} {ad : Nat → Nat} (hC : fCx p s m args c vwCl D aC TB ad (fFr ad TB) goodTs cX5_isRevision RX5 3) (hr : meth.sig.returnType = some .boolean) (hk : meth.locks = false) (a1 : Int) (a2 : Int) (M : fMem) : GM l p e s m args below meth c D aC ad 3 1 20 0 0 [(0, .ref (ad 0)), (1, .int (fI a1)), (2, .int (fI a2))] [] M (dn_X5_isRevision a1 a2 M) := by
  unfold dn_X5_isRevision
  refine g_iload_n hC 1 1 rfl dX5_isRevision_0 rfl rfl ?_
  refine g_cS hC 4 1 [.int (fI a1)] [] (cn_X5_isFile l a1 _) rfl rfl gw_246 gw_248 gw_59 gw_247 (by decide +kernel) rfl ⟨Nat.le_of_ble_eq_true rfl, Nat.le_of_ble_eq_true rfl⟩ (Nat.le_of_ble_eq_true rfl) ⟨Nat.zero_le _, Nat.zero_le _⟩ dX5_isRevision_1 rfl (fun v1 => .int (fI v1) :: []) (fun _ => rfl) (fun v1 M2 => ?_)
  refine g_if_eq hC 28 7 dX5_isRevision_4 rfl rfl ?_ ?_
  · refine g_iconst hC 29 dX5_isRevision_28 rfl ?_
    exact g_zreturn hC hr hk dX5_isRevision_29
  · refine g_iload_n hC 2 8 rfl dX5_isRevision_7 rfl rfl ?_
    refine g_if_lt hC 28 11 dX5_isRevision_8 rfl rfl ?_ ?_
    · refine g_iconst hC 29 dX5_isRevision_28 rfl ?_
      exact g_zreturn hC hr hk dX5_isRevision_29
    · refine g_iload_n hC 2 12 rfl dX5_isRevision_11 rfl rfl ?_
      refine g_aload_n hC 0 13 rfl dX5_isRevision_12 rfl rfl ?_
      refine g_getA hC 16 inX5 rfl 0 (by decide) gw_223 rfl tb_RS rfl dX5_isRevision_13 rfl ?_
      refine g_iload_n hC 1 17 rfl dX5_isRevision_16 rfl rfl ?_
      refine g_aald hC 4 2 11 18 tb_HA rfl tb_HA_q rfl (by decide) dX5_isRevision_17 rfl (fun P3 hP3 => ?_)
      replace hP3 := fIsH_of hP3
      refine g_getIN hC 21 inX2 rfl 5 (by decide) gw_94 rfl (tb_H hP3) rfl dX5_isRevision_18 rfl (fun x4 => ?_)
      refine g_icmp_ge hC 28 24 dX5_isRevision_21 rfl rfl ?_ ?_
      · refine g_iconst hC 29 dX5_isRevision_28 rfl ?_
        exact g_zreturn hC hr hk dX5_isRevision_29
      · refine g_iconst hC 25 dX5_isRevision_24 rfl ?_
        refine g_goto hC 29 dX5_isRevision_25 rfl ?_
        exact g_zreturn hC hr hk dX5_isRevision_29
theorem cn_X5_isRevision (l : Launch) (a1 : Int) (a2 : Int) (M : fMem) : fMt l vwCl TB yX5_isRevision cX5_isRevision 3 (some .boolean) 1 20 0 (fun ad => [.ref (ad 0), .int (fI a1), .int (fI a2)]) M (dn_X5_isRevision a1 a2 M) :=
  fMt.of (by decide +kernel) (fun _ => Nat.le_of_ble_eq_true rfl) (fun p e s m args below meth c D aC ad hC hr hk => wk_X5_isRevision hC hr hk a1 a2 M)
def dn_X5_number (a1 : Int) (a2 : Int) (a3 : Int) (M : fMem) : fOp :=
  fCl (dn_X5_isRevision a1 a2 M) (fun v1 M2 => fEq v1 0 (some ((-1), M2)) (fLt a3 0 (some ((-1), M2)) (fIx 4 2 11 a1 (fun P3 => fCl (dn_X2_numberPart P3 a2 a3 M2) (fun v4 M5 => some (v4, M5))))))
set_option maxRecDepth 100000 in
set_option maxHeartbeats 4000000 in
theorem wk_X5_number {l : Launch} {p : Program} {e : Env} {s : State} {m : MethodId} {args : Array Value} {below : List Frame} {meth : Method} {c : Code} {D : va_G} {aC : Nat → ClassId} {ad : Nat → Nat} (hC : fCx p s m args c vwCl D aC TB ad (fFr ad TB) goodTs cX5_number RX5 4) (hr : meth.sig.returnType = some .int) (hk : meth.locks = false) (a1 : Int) (a2 : Int) (a3 : Int) (M : fMem) : GM l p e s m args below meth c D aC ad 4 2 50 0 0 [(0, .ref (ad 0)), (1, .int (fI a1)), (2, .int (fI a2)), (3, .int (fI a3))] [] M (dn_X5_number a1 a2 a3 M) := by
  unfold dn_X5_number
  refine g_aload_n hC 0 1 rfl dX5_number_0 rfl rfl ?_
  refine g_iload_n hC 1 2 rfl dX5_number_1 rfl rfl ?_
  refine g_iload_n hC 2 3 rfl dX5_number_2 rfl rfl ?_
  refine g_cV hC 6 2 [.int (fI a1), .int (fI a2)] [] (cn_X5_isRevision l a1 a2 _) rfl rfl tb_RS rfl gw_475 gw_478 gw_59 gw_477 gw_30 (by decide +kernel) rfl ⟨Nat.le_of_ble_eq_true rfl, Nat.le_of_ble_eq_true rfl⟩ (Nat.le_of_ble_eq_true rfl) ⟨Nat.zero_le _, Nat.zero_le _⟩ dX5_number_3 rfl (fun v1 => .int (fI v1) :: []) (fun _ => rfl) (fun v1 M2 => ?_)
  refine g_if_eq hC 27 9 dX5_number_6 rfl rfl ?_ ?_
  · refine g_iconst hC 28 dX5_number_27 rfl ?_
    exact g_ireturn hC hr hk dX5_number_28
  · refine g_iload_n hC 3 10 rfl dX5_number_9 rfl rfl ?_
    refine g_if_lt hC 27 13 dX5_number_10 rfl rfl ?_ ?_
    · refine g_iconst hC 28 dX5_number_27 rfl ?_
      exact g_ireturn hC hr hk dX5_number_28
    · refine g_aload_n hC 0 14 rfl dX5_number_13 rfl rfl ?_
      refine g_getA hC 17 inX5 rfl 0 (by decide) gw_223 rfl tb_RS rfl dX5_number_14 rfl ?_
      refine g_iload_n hC 1 18 rfl dX5_number_17 rfl rfl ?_
      refine g_aald hC 4 2 11 19 tb_HA rfl tb_HA_q rfl (by decide) dX5_number_18 rfl (fun P3 hP3 => ?_)
      replace hP3 := fIsH_of hP3
      refine g_iload_n hC 2 20 rfl dX5_number_19 rfl rfl ?_
      refine g_iload_n hC 3 21 rfl dX5_number_20 rfl rfl ?_
      refine g_cVN hC 24 2 [.int (fI a2), .int (fI a3)] [] (cn_X2_numberPart l P3 hP3 a2 a3 _) rfl rfl (tb_H hP3) rfl gw_479 gw_482 gw_60 gw_481 gw_31 (by decide +kernel) rfl ⟨Nat.le_of_ble_eq_true rfl, Nat.le_of_ble_eq_true rfl⟩ (Nat.le_of_ble_eq_true rfl) ⟨Nat.zero_le _, Nat.zero_le _⟩ dX5_number_21 rfl (fun v4 => .int (fI v4) :: []) (fun _ => rfl) (fun v4 M5 => ?_)
      refine g_goto hC 28 dX5_number_24 rfl ?_
      exact g_ireturn hC hr hk dX5_number_28
theorem cn_X5_number (l : Launch) (a1 : Int) (a2 : Int) (a3 : Int) (M : fMem) : fMt l vwCl TB yX5_number cX5_number 4 (some .int) 2 50 0 (fun ad => [.ref (ad 0), .int (fI a1), .int (fI a2), .int (fI a3)]) M (dn_X5_number a1 a2 a3 M) :=
  fMt.of (by decide +kernel) (fun _ => Nat.le_of_ble_eq_true rfl) (fun p e s m args below meth c D aC ad hC hr hk => wk_X5_number hC hr hk a1 a2 a3 M)
def dn_X5_content (a1 : Int) (a2 : Int) (M : fMem) : fOp :=
  fCl (dn_X5_isRevision a1 a2 M) (fun v1 M2 => fEq v1 0 (some ((-1), M2)) (fIx 4 2 11 a1 (fun P3 => fRd M2 (P3 + 1) 24 a2 (fun x4 => some (x4, M2)))))
set_option maxRecDepth 100000 in
set_option maxHeartbeats 4000000 in
theorem wk_X5_content {l : Launch} {p : Program} {e : Env} {s : State} {m : MethodId} {args : Array Value} {below : List Frame} {meth : Method} {c : Code} {D : va_G} {aC : Nat → ClassId} {ad : Nat → Nat} (hC : fCx p s m args c vwCl D aC TB ad (fFr ad TB) goodTs cX5_content RX5 3) (hr : meth.sig.returnType = some .long) (hk : meth.locks = false) (a1 : Int) (a2 : Int) (M : fMem) : GM l p e s m args below meth c D aC ad 3 2 42 1 0 [(0, .ref (ad 0)), (1, .int (fI a1)), (2, .int (fI a2))] [] M (dn_X5_content a1 a2 M) := by
  unfold dn_X5_content
  refine g_aload_n hC 0 1 rfl dX5_content_0 rfl rfl ?_
  refine g_iload_n hC 1 2 rfl dX5_content_1 rfl rfl ?_
  refine g_iload_n hC 2 3 rfl dX5_content_2 rfl rfl ?_
  refine g_cV hC 6 2 [.int (fI a1), .int (fI a2)] [] (cn_X5_isRevision l a1 a2 _) rfl rfl tb_RS rfl gw_475 gw_478 gw_59 gw_477 gw_30 (by decide +kernel) rfl ⟨Nat.le_of_ble_eq_true rfl, Nat.le_of_ble_eq_true rfl⟩ (Nat.le_of_ble_eq_true rfl) ⟨Nat.zero_le _, Nat.zero_le _⟩ dX5_content_3 rfl (fun v1 => .int (fI v1) :: []) (fun _ => rfl) (fun v1 M2 => ?_)
  refine g_if_eq hC 23 9 dX5_content_6 rfl rfl ?_ ?_
  · refine g_ldc2 hC (-1) 26 gw_458 dX5_content_23 rfl ?_
    exact g_lreturn hC hr hk dX5_content_26
  · refine g_aload_n hC 0 10 rfl dX5_content_9 rfl rfl ?_
    refine g_getA hC 13 inX5 rfl 0 (by decide) gw_223 rfl tb_RS rfl dX5_content_10 rfl ?_
    refine g_iload_n hC 1 14 rfl dX5_content_13 rfl rfl ?_
    refine g_aald hC 4 2 11 15 tb_HA rfl tb_HA_q rfl (by decide) dX5_content_14 rfl (fun P3 hP3 => ?_)
    replace hP3 := fIsH_of hP3
    refine g_getAN hC 18 inX2 rfl 0 (by decide) gw_87 rfl (tb_H hP3) rfl dX5_content_15 rfl ?_
    refine g_iload_n hC 2 19 rfl dX5_content_18 rfl rfl ?_
    refine g_lald hC 20 (tb_H_1 hP3) (by decide) dX5_content_19 rfl (fun x4 => ?_)
    refine g_goto hC 26 dX5_content_20 rfl ?_
    exact g_lreturn hC hr hk dX5_content_26
theorem cn_X5_content (l : Launch) (a1 : Int) (a2 : Int) (M : fMem) : fMt l vwCl TB yX5_content cX5_content 3 (some .long) 2 42 1 (fun ad => [.ref (ad 0), .int (fI a1), .int (fI a2)]) M (dn_X5_content a1 a2 M) :=
  fMt.of (by decide +kernel) (fun _ => Nat.le_of_ble_eq_true rfl) (fun p e s m args below meth c D aC ad hC hr hk => wk_X5_content hC hr hk a1 a2 M)
def dn_X5_dead (a1 : Int) (a2 : Int) (M : fMem) : fOp :=
  fCl (dn_X5_isRevision a1 a2 M) (fun v1 M2 => fEq v1 0 (fRz 0 M2) (fIx 4 2 11 a1 (fun P3 => fRd M2 (P3 + 2) 24 a2 (fun x4 => fEq x4 0 (fRz 0 M2) (fRz 1 M2)))))
set_option maxRecDepth 100000 in
set_option maxHeartbeats 4000000 in
theorem wk_X5_dead {l : Launch} {p : Program} {e : Env} {s : State} {m : MethodId} {args : Array Value} {below : List Frame} {meth : Method} {c : Code} {D : va_G} {aC : Nat → ClassId} {ad : Nat → Nat} (hC : fCx p s m args c vwCl D aC TB ad (fFr ad TB) goodTs cX5_dead RX5 3) (hr : meth.sig.returnType = some .boolean) (hk : meth.locks = false) (a1 : Int) (a2 : Int) (M : fMem) : GM l p e s m args below meth c D aC ad 3 2 42 0 0 [(0, .ref (ad 0)), (1, .int (fI a1)), (2, .int (fI a2))] [] M (dn_X5_dead a1 a2 M) := by
  unfold dn_X5_dead
  refine g_aload_n hC 0 1 rfl dX5_dead_0 rfl rfl ?_
  refine g_iload_n hC 1 2 rfl dX5_dead_1 rfl rfl ?_
  refine g_iload_n hC 2 3 rfl dX5_dead_2 rfl rfl ?_
  refine g_cV hC 6 2 [.int (fI a1), .int (fI a2)] [] (cn_X5_isRevision l a1 a2 _) rfl rfl tb_RS rfl gw_475 gw_478 gw_59 gw_477 gw_30 (by decide +kernel) rfl ⟨Nat.le_of_ble_eq_true rfl, Nat.le_of_ble_eq_true rfl⟩ (Nat.le_of_ble_eq_true rfl) ⟨Nat.zero_le _, Nat.zero_le _⟩ dX5_dead_3 rfl (fun v1 => .int (fI v1) :: []) (fun _ => rfl) (fun v1 M2 => ?_)
  refine g_if_eq hC 27 9 dX5_dead_6 rfl rfl ?_ ?_
  · refine g_iconst hC 28 dX5_dead_27 rfl ?_
    exact g_zreturn hC hr hk dX5_dead_28
  · refine g_aload_n hC 0 10 rfl dX5_dead_9 rfl rfl ?_
    refine g_getA hC 13 inX5 rfl 0 (by decide) gw_223 rfl tb_RS rfl dX5_dead_10 rfl ?_
    refine g_iload_n hC 1 14 rfl dX5_dead_13 rfl rfl ?_
    refine g_aald hC 4 2 11 15 tb_HA rfl tb_HA_q rfl (by decide) dX5_dead_14 rfl (fun P3 hP3 => ?_)
    replace hP3 := fIsH_of hP3
    refine g_getAN hC 18 inX2 rfl 1 (by decide) gw_89 rfl (tb_H hP3) rfl dX5_dead_15 rfl ?_
    refine g_iload_n hC 2 19 rfl dX5_dead_18 rfl rfl ?_
    refine g_zald hC 20 (tb_H_2 hP3) (by decide) dX5_dead_19 rfl (fun x4 => ?_)
    refine g_if_eq hC 27 23 dX5_dead_20 rfl rfl ?_ ?_
    · refine g_iconst hC 28 dX5_dead_27 rfl ?_
      exact g_zreturn hC hr hk dX5_dead_28
    · refine g_iconst hC 24 dX5_dead_23 rfl ?_
      refine g_goto hC 28 dX5_dead_24 rfl ?_
      exact g_zreturn hC hr hk dX5_dead_28
theorem cn_X5_dead (l : Launch) (a1 : Int) (a2 : Int) (M : fMem) : fMt l vwCl TB yX5_dead cX5_dead 3 (some .boolean) 2 42 0 (fun ad => [.ref (ad 0), .int (fI a1), .int (fI a2)]) M (dn_X5_dead a1 a2 M) :=
  fMt.of (by decide +kernel) (fun _ => Nat.le_of_ble_eq_true rfl) (fun p e s m args below meth c D aC ad hC hr hk => wk_X5_dead hC hr hk a1 a2 M)
def dn_X5_kept (a1 : Int) (a2 : Int) (M : fMem) : fOp :=
  fCl (dn_X5_isRevision a1 a2 M) (fun v1 M2 => fEq v1 0 (some ((-1), M2)) (fIx 4 2 11 a1 (fun P3 => fCl (dn_X2_keptAgainst P3 a2 M2) (fun v4 M5 => fEq v4 (-1) (fRd M5 (P3 + 1) 24 a2 (fun x12 => fCl (dn_X4_lineCount x12 M5) (fun v13 M14 => some (v13, M14)))) (fRd M5 (P3 + 1) 24 v4 (fun x6 => fRd M5 (P3 + 1) 24 a2 (fun x7 => fCl (dn_X1_compare 60 x6 x7 M5) (fun _ M9 => fCl (dn_X1_size 60 M9) (fun v10 M11 => some (v10, M11))))))))))
set_option maxRecDepth 100000 in
set_option maxHeartbeats 4000000 in
theorem wk_X5_kept {l : Launch} {p : Program} {e : Env} {s : State} {m : MethodId} {args : Array Value} {below : List Frame} {meth : Method} {c : Code} {D : va_G} {aC : Nat → ClassId} {ad : Nat → Nat} (hC : fCx p s m args c vwCl D aC TB ad (fFr ad TB) goodTs cX5_kept RX5 5) (hr : meth.sig.returnType = some .int) (hk : meth.locks = false) (a1 : Int) (a2 : Int) (M : fMem) : GM l p e s m args below meth c D aC ad 5 3 74 0 0 [(0, .ref (ad 0)), (1, .int (fI a1)), (2, .int (fI a2))] [] M (dn_X5_kept a1 a2 M) := by
  unfold dn_X5_kept
  refine g_aload_n hC 0 1 rfl dX5_kept_0 rfl rfl ?_
  refine g_iload_n hC 1 2 rfl dX5_kept_1 rfl rfl ?_
  refine g_iload_n hC 2 3 rfl dX5_kept_2 rfl rfl ?_
  refine g_cV hC 6 2 [.int (fI a1), .int (fI a2)] [] (cn_X5_isRevision l a1 a2 _) rfl rfl tb_RS rfl gw_475 gw_478 gw_59 gw_477 gw_30 (by decide +kernel) rfl ⟨Nat.le_of_ble_eq_true rfl, Nat.le_of_ble_eq_true rfl⟩ (Nat.le_of_ble_eq_true rfl) ⟨Nat.zero_le _, Nat.zero_le _⟩ dX5_kept_3 rfl (fun v1 => .int (fI v1) :: []) (fun _ => rfl) (fun v1 M2 => ?_)
  refine g_if_ne hC 11 9 dX5_kept_6 rfl rfl ?_ ?_
  · refine g_aload_n hC 0 12 rfl dX5_kept_11 rfl rfl ?_
    refine g_getA hC 15 inX5 rfl 0 (by decide) gw_223 rfl tb_RS rfl dX5_kept_12 rfl ?_
    refine g_iload_n hC 1 16 rfl dX5_kept_15 rfl rfl ?_
    refine g_aald hC 4 2 11 17 tb_HA rfl tb_HA_q rfl (by decide) dX5_kept_16 rfl (fun P3 hP3 => ?_)
    replace hP3 := fIsH_of hP3
    refine g_astore_n hC 18 [(3, .ref (ad P3)), (0, .ref (ad 0)), (1, .int (fI a1)), (2, .int (fI a2))] dX5_kept_17 rfl (by decide) rfl rfl ?_
    refine g_aload_n hC 0 19 rfl dX5_kept_18 rfl rfl ?_
    refine g_iload_n hC 3 20 rfl dX5_kept_19 rfl rfl ?_
    refine g_cVN hC 23 1 [.int (fI a2)] [] (cn_X2_keptAgainst l P3 hP3 a2 _) rfl rfl (tb_H hP3) rfl gw_499 gw_502 gw_60 gw_501 gw_33 (by decide +kernel) rfl ⟨Nat.le_of_ble_eq_true rfl, Nat.le_of_ble_eq_true rfl⟩ (Nat.le_of_ble_eq_true rfl) ⟨Nat.zero_le _, Nat.zero_le _⟩ dX5_kept_20 rfl (fun v4 => .int (fI v4) :: []) (fun _ => rfl) (fun v4 M5 => ?_)
    refine g_istore hC 25 [(4, .int (fI v4)), (3, .ref (ad P3)), (0, .ref (ad 0)), (1, .int (fI a1)), (2, .int (fI a2))] dX5_kept_23 (by decide) rfl rfl ?_
    refine g_iload hC 0 27 rfl dX5_kept_25 rfl ?_
    refine g_iconst hC 28 dX5_kept_27 rfl ?_
    refine g_icmp_ne hC 41 31 dX5_kept_28 rfl rfl ?_ ?_
    · refine g_aload_n hC 2 42 rfl dX5_kept_41 rfl rfl ?_
      refine g_getA hC 45 inX5 rfl 3 (by decide) gw_226 rfl tb_RS rfl dX5_kept_42 rfl ?_
      refine g_aload_n hC 1 46 rfl dX5_kept_45 rfl rfl ?_
      refine g_getAN hC 49 inX2 rfl 0 (by decide) gw_87 rfl (tb_H hP3) rfl dX5_kept_46 rfl ?_
      refine g_iload hC 0 51 rfl dX5_kept_49 rfl ?_
      refine g_lald hC 52 (tb_H_1 hP3) (by decide) dX5_kept_51 rfl (fun x6 => ?_)
      refine g_aload_n hC 1 53 rfl dX5_kept_52 rfl rfl ?_
      refine g_getAN hC 56 inX2 rfl 0 (by decide) gw_87 rfl (tb_H hP3) rfl dX5_kept_53 rfl ?_
      refine g_iload_n hC 4 57 rfl dX5_kept_56 rfl rfl ?_
      refine g_lald hC 58 (tb_H_1 hP3) (by decide) dX5_kept_57 rfl (fun x7 => ?_)
      refine g_cVN hC 61 2 [.long (fL x6), .long (fL x7)] [] (cn_X1_compare l 60 fIsD_60 x6 x7 _) rfl rfl (tb_D fIsD_60) rfl gw_508 gw_395 gw_63 gw_394 gw_22 (by decide +kernel) rfl ⟨Nat.le_of_ble_eq_true rfl, Nat.le_of_ble_eq_true rfl⟩ (Nat.le_of_ble_eq_true rfl) ⟨Nat.zero_le _, Nat.zero_le _⟩ dX5_kept_58 rfl (fun _ => []) (fun _ => rfl) (fun _ M9 => ?_)
      refine g_aload_n hC 2 62 rfl dX5_kept_61 rfl rfl ?_
      refine g_getA hC 65 inX5 rfl 3 (by decide) gw_226 rfl tb_RS rfl dX5_kept_62 rfl ?_
      refine g_cVN hC 68 0 [] [] (cn_X1_size l 60 fIsD_60 _) rfl rfl (tb_D fIsD_60) rfl gw_509 gw_512 gw_63 gw_511 gw_35 (by decide +kernel) rfl ⟨Nat.le_of_ble_eq_true rfl, Nat.le_of_ble_eq_true rfl⟩ (Nat.le_of_ble_eq_true rfl) ⟨Nat.zero_le _, Nat.zero_le _⟩ dX5_kept_65 rfl (fun v10 => .int (fI v10) :: []) (fun _ => rfl) (fun v10 M11 => ?_)
      exact g_ireturn hC hr hk dX5_kept_68
    · refine g_aload_n hC 1 32 rfl dX5_kept_31 rfl rfl ?_
      refine g_getAN hC 35 inX2 rfl 0 (by decide) gw_87 rfl (tb_H hP3) rfl dX5_kept_32 rfl ?_
      refine g_iload_n hC 4 36 rfl dX5_kept_35 rfl rfl ?_
      refine g_lald hC 37 (tb_H_1 hP3) (by decide) dX5_kept_36 rfl (fun x12 => ?_)
      refine g_cSN hC 40 1 [.long (fL x12)] [] (cn_X4_lineCount l x12 _) rfl rfl gw_507 gw_401 gw_66 gw_400 (by decide +kernel) rfl ⟨Nat.le_of_ble_eq_true rfl, Nat.le_of_ble_eq_true rfl⟩ (Nat.le_of_ble_eq_true rfl) ⟨Nat.zero_le _, Nat.zero_le _⟩ dX5_kept_37 rfl (fun v13 => .int (fI v13) :: []) (fun _ => rfl) (fun v13 M14 => ?_)
      exact g_ireturn hC hr hk dX5_kept_40
  · refine g_iconst hC 10 dX5_kept_9 rfl ?_
    exact g_ireturn hC hr hk dX5_kept_10
theorem cn_X5_kept (l : Launch) (a1 : Int) (a2 : Int) (M : fMem) : fMt l vwCl TB yX5_kept cX5_kept 5 (some .int) 3 74 0 (fun ad => [.ref (ad 0), .int (fI a1), .int (fI a2)]) M (dn_X5_kept a1 a2 M) :=
  fMt.of (by decide +kernel) (fun _ => Nat.le_of_ble_eq_true rfl) (fun p e s m args below meth c D aC ad hC hr hk => wk_X5_kept hC hr hk a1 a2 M)
def dn_X5_named (a1 : Int) (a2 : Int) (M : fMem) : fOp :=
  fCl (dn_X5_isFile a1 M) (fun v1 M2 => fEq v1 0 (some ((-1), M2)) (fCl (dn_X5_isTag a2 M2) (fun v3 M4 => fEq v3 0 (some ((-1), M4)) (fIx 4 2 11 a1 (fun P5 => fRd M4 (P5 + 10) 5 a2 (fun x6 => some (x6, M4)))))))
set_option maxRecDepth 100000 in
set_option maxHeartbeats 4000000 in
theorem wk_X5_named {l : Launch} {p : Program} {e : Env} {s : State} {m : MethodId} {args : Array Value} {below : List Frame} {meth : Method} {c : Code} {D : va_G} {aC : Nat → ClassId} {ad : Nat → Nat} (hC : fCx p s m args c vwCl D aC TB ad (fFr ad TB) goodTs cX5_named RX5 3) (hr : meth.sig.returnType = some .int) (hk : meth.locks = false) (a1 : Int) (a2 : Int) (M : fMem) : GM l p e s m args below meth c D aC ad 3 1 20 0 0 [(0, .ref (ad 0)), (1, .int (fI a1)), (2, .int (fI a2))] [] M (dn_X5_named a1 a2 M) := by
  unfold dn_X5_named
  refine g_iload_n hC 1 1 rfl dX5_named_0 rfl rfl ?_
  refine g_cS hC 4 1 [.int (fI a1)] [] (cn_X5_isFile l a1 _) rfl rfl gw_246 gw_248 gw_59 gw_247 (by decide +kernel) rfl ⟨Nat.le_of_ble_eq_true rfl, Nat.le_of_ble_eq_true rfl⟩ (Nat.le_of_ble_eq_true rfl) ⟨Nat.zero_le _, Nat.zero_le _⟩ dX5_named_1 rfl (fun v1 => .int (fI v1) :: []) (fun _ => rfl) (fun v1 M2 => ?_)
  refine g_if_eq hC 28 7 dX5_named_4 rfl rfl ?_ ?_
  · refine g_iconst hC 29 dX5_named_28 rfl ?_
    exact g_ireturn hC hr hk dX5_named_29
  · refine g_iload_n hC 2 8 rfl dX5_named_7 rfl rfl ?_
    refine g_cS hC 11 1 [.int (fI a2)] [] (cn_X5_isTag l a2 _) rfl rfl gw_371 gw_373 gw_59 gw_372 (by decide +kernel) rfl ⟨Nat.le_of_ble_eq_true rfl, Nat.le_of_ble_eq_true rfl⟩ (Nat.le_of_ble_eq_true rfl) ⟨Nat.zero_le _, Nat.zero_le _⟩ dX5_named_8 rfl (fun v3 => .int (fI v3) :: []) (fun _ => rfl) (fun v3 M4 => ?_)
    refine g_if_eq hC 28 14 dX5_named_11 rfl rfl ?_ ?_
    · refine g_iconst hC 29 dX5_named_28 rfl ?_
      exact g_ireturn hC hr hk dX5_named_29
    · refine g_aload_n hC 0 15 rfl dX5_named_14 rfl rfl ?_
      refine g_getA hC 18 inX5 rfl 0 (by decide) gw_223 rfl tb_RS rfl dX5_named_15 rfl ?_
      refine g_iload_n hC 1 19 rfl dX5_named_18 rfl rfl ?_
      refine g_aald hC 4 2 11 20 tb_HA rfl tb_HA_q rfl (by decide) dX5_named_19 rfl (fun P5 hP5 => ?_)
      replace hP5 := fIsH_of hP5
      refine g_getAN hC 23 inX2 rfl 13 (by decide) gw_105 rfl (tb_H hP5) rfl dX5_named_20 rfl ?_
      refine g_iload_n hC 2 24 rfl dX5_named_23 rfl rfl ?_
      refine g_iald hC 25 (tb_H_10 hP5) (by decide) dX5_named_24 rfl (fun x6 => ?_)
      refine g_goto hC 29 dX5_named_25 rfl ?_
      exact g_ireturn hC hr hk dX5_named_29
theorem cn_X5_named (l : Launch) (a1 : Int) (a2 : Int) (M : fMem) : fMt l vwCl TB yX5_named cX5_named 3 (some .int) 1 20 0 (fun ad => [.ref (ad 0), .int (fI a1), .int (fI a2)]) M (dn_X5_named a1 a2 M) :=
  fMt.of (by decide +kernel) (fun _ => Nat.le_of_ble_eq_true rfl) (fun p e s m args below meth c D aC ad hC hr hk => wk_X5_named hC hr hk a1 a2 M)
def dn_X5_standard (a1 : Int) (M : fMem) : fOp :=
  fCl (dn_X5_isFile a1 M) (fun v1 M2 => fEq v1 0 (some ((-1), M2)) (fIx 4 2 11 a1 (fun P3 => fCl (dn_X2_isThere P3 M2) (fun v4 M5 => fEq v4 0 (some ((-1), M5)) (fIx 4 2 11 a1 (fun P6 => fGt M5 P6 12 (fun x7 => some (x7, M5))))))))
set_option maxRecDepth 100000 in
set_option maxHeartbeats 4000000 in
theorem wk_X5_standard {l : Launch} {p : Program} {e : Env} {s : State} {m : MethodId} {args : Array Value} {below : List Frame} {meth : Method} {c : Code} {D : va_G} {aC : Nat → ClassId} {ad : Nat → Nat} (hC : fCx p s m args c vwCl D aC TB ad (fFr ad TB) goodTs cX5_standard RX5 2) (hr : meth.sig.returnType = some .int) (hk : meth.locks = false) (a1 : Int) (M : fMem) : GM l p e s m args below meth c D aC ad 2 1 20 0 0 [(0, .ref (ad 0)), (1, .int (fI a1))] [] M (dn_X5_standard a1 M) := by
  unfold dn_X5_standard
  refine g_iload_n hC 1 1 rfl dX5_standard_0 rfl rfl ?_
  refine g_cS hC 4 1 [.int (fI a1)] [] (cn_X5_isFile l a1 _) rfl rfl gw_246 gw_248 gw_59 gw_247 (by decide +kernel) rfl ⟨Nat.le_of_ble_eq_true rfl, Nat.le_of_ble_eq_true rfl⟩ (Nat.le_of_ble_eq_true rfl) ⟨Nat.zero_le _, Nat.zero_le _⟩ dX5_standard_1 rfl (fun v1 => .int (fI v1) :: []) (fun _ => rfl) (fun v1 M2 => ?_)
  refine g_if_eq hC 31 7 dX5_standard_4 rfl rfl ?_ ?_
  · refine g_iconst hC 32 dX5_standard_31 rfl ?_
    exact g_ireturn hC hr hk dX5_standard_32
  · refine g_aload_n hC 0 8 rfl dX5_standard_7 rfl rfl ?_
    refine g_getA hC 11 inX5 rfl 0 (by decide) gw_223 rfl tb_RS rfl dX5_standard_8 rfl ?_
    refine g_iload_n hC 1 12 rfl dX5_standard_11 rfl rfl ?_
    refine g_aald hC 4 2 11 13 tb_HA rfl tb_HA_q rfl (by decide) dX5_standard_12 rfl (fun P3 hP3 => ?_)
    replace hP3 := fIsH_of hP3
    refine g_cVN hC 16 0 [] [] (cn_X2_isThere l P3 hP3 _) rfl rfl (tb_H hP3) rfl gw_315 gw_318 gw_60 gw_317 gw_10 (by decide +kernel) rfl ⟨Nat.le_of_ble_eq_true rfl, Nat.le_of_ble_eq_true rfl⟩ (Nat.le_of_ble_eq_true rfl) ⟨Nat.zero_le _, Nat.zero_le _⟩ dX5_standard_13 rfl (fun v4 => .int (fI v4) :: []) (fun _ => rfl) (fun v4 M5 => ?_)
    refine g_if_eq hC 31 19 dX5_standard_16 rfl rfl ?_ ?_
    · refine g_iconst hC 32 dX5_standard_31 rfl ?_
      exact g_ireturn hC hr hk dX5_standard_32
    · refine g_aload_n hC 0 20 rfl dX5_standard_19 rfl rfl ?_
      refine g_getA hC 23 inX5 rfl 0 (by decide) gw_223 rfl tb_RS rfl dX5_standard_20 rfl ?_
      refine g_iload_n hC 1 24 rfl dX5_standard_23 rfl rfl ?_
      refine g_aald hC 4 2 11 25 tb_HA rfl tb_HA_q rfl (by decide) dX5_standard_24 rfl (fun P6 hP6 => ?_)
      replace hP6 := fIsH_of hP6
      refine g_getIN hC 28 inX2 rfl 12 (by decide) gw_103 rfl (tb_H hP6) rfl dX5_standard_25 rfl (fun x7 => ?_)
      refine g_goto hC 32 dX5_standard_28 rfl ?_
      exact g_ireturn hC hr hk dX5_standard_32
theorem cn_X5_standard (l : Launch) (a1 : Int) (M : fMem) : fMt l vwCl TB yX5_standard cX5_standard 2 (some .int) 1 20 0 (fun ad => [.ref (ad 0), .int (fI a1)]) M (dn_X5_standard a1 M) :=
  fMt.of (by decide +kernel) (fun _ => Nat.le_of_ble_eq_true rfl) (fun p e s m args below meth c D aC ad hC hr hk => wk_X5_standard hC hr hk a1 M)
