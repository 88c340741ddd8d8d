/-! Arrays.fill over any flat world -/
def dn_fill_L (q n : Nat) (v : Int) : Nat → Int → fMem → fOp
  | 0, _, _ => none
  | k + 1, i, M => fLe (n : Int) i (some (0, M)) (fWr M q n i v (fun M' => dn_fill_L q n v k (i + 1) M'))
theorem dn_fill_eq (q n : Nat) (hn : n ≤ 2147483647) (v : Int) : ∀ (k i : Nat) (M : fMem), i ≤ n → n - i < k → (∀ j, j < i → M q j = v) → ∃ M', dn_fill_L q n v k (i : Int) M = some (0, M') ∧ (∀ p j, ¬ (p = q ∧ j < n) → M' p j = M p j) ∧ ∀ j, j < n → M' q j = v := by
  intro k
  induction k with
  | zero => intro i M _ h; omega
  | succ k ih =>
    intro i M hi hk hv
    show ∃ M', fLe (n : Int) i (some (0, M)) (fWr M q n i v (fun M' => dn_fill_L q n v k (i + 1) M')) = some (0, M') ∧ _
    unfold fLe
    rw [if_pos ⟨⟨by omega, by omega⟩, by omega, by omega⟩]
    by_cases h : (n : Int) ≤ i
    · rw [if_pos h]
      have : i = n := by omega
      subst this
      exact ⟨M, rfl, fun _ _ _ => rfl, hv⟩
    · rw [if_neg h]
      unfold fWr
      rw [if_pos ⟨by omega, by omega⟩]
      obtain ⟨M', e1, e2, e3⟩ := ih (i + 1) (fup M q (i : Int).toNat v) (by omega) (by omega) (fun j hj => by
        by_cases hji : j = i
        · subst hji; simp [fup]
        · rw [fup_ne (by simp; omega)]; exact hv j (by omega))
      refine ⟨M', by rw [← e1]; rfl, fun p j hp => ?_, e3⟩
      rw [e2 p j hp, fup_ne]
      intro hz
      exact hp ⟨hz.1, by have := hz.2; simp at this; omega⟩
section FFill
variable {l : Launch} {p : Program} {e : Env} {s : State} {m : MethodId} {args : Array Value} {below : List Frame} {meth : Method} {c : Code} {cl : List vw_C} {D : va_G} {aC : Nat → ClassId} {tb : List fEn} {ad : Nat → Nat}
theorem wk_fill_L {q n : Nat} {xs : List (Nat × Nat)} (he : tb[q]? = some (0, n, xs)) (hn : n ≤ 2147483647) (v : Int) (hC : fCx p s m args c cl D aC tb ad (fFr ad tb) goodTs cJ7_fill RJ7 4) (hr : meth.sig.returnType = none) (hk : meth.locks = false) (k : Nat) : ∀ (i : Int) (M : fMem), GO p l e (fRm 0 0) s m args below meth c cl D aC tb ad (fFr ad tb) 4 0 0 (fun r => MQ below (fQ cl D aC ad tb 2 r) args s 0 0 (fFr ad tb)) 5 [(0, .ref (ad q)), (1, .int (fI v)), (2, .int (fI i)), (3, .int (fI (n : Int)))] [] M (dn_fill_L q n v k i M) := by
  induction k with
  | zero => intro i M; exact g_none
  | succ k ih =>
    intro i M
    show GO p l e (fRm 0 0) s m args below meth c cl D aC tb ad (fFr ad tb) 4 0 0 (fun r => MQ below (fQ cl D aC ad tb 2 r) args s 0 0 (fFr ad tb)) 5 [(0, .ref (ad q)), (1, .int (fI v)), (2, .int (fI i)), (3, .int (fI (n : Int)))] [] M (fLe (n : Int) i (some (0, M)) (fWr M q n i v (fun M' => dn_fill_L q n v k (i + 1) M')))
    refine g_iload_n hC 2 6 rfl dJ7_fill_5 rfl rfl ?_
    refine g_iload_n hC 3 7 rfl dJ7_fill_6 rfl rfl ?_
    refine g_icmp_ge hC 20 10 dJ7_fill_7 rfl rfl ?_ ?_
    · exact g_return hC hr hk dJ7_fill_20
    · refine g_aload_n hC 0 11 rfl dJ7_fill_10 rfl rfl ?_
      refine g_iload_n hC 2 12 rfl dJ7_fill_11 rfl rfl ?_
      refine g_iload_n hC 1 13 rfl dJ7_fill_12 rfl rfl ?_
      refine g_iast hC 14 he (by omega) dJ7_fill_13 rfl (fun M' => ?_)
      refine g_iinc hC 2 17 [(2, .int (fI (i + 1))), (0, .ref (ad q)), (1, .int (fI v)), (3, .int (fI (n : Int)))] rfl dJ7_fill_14 (by decide) rfl rfl ?_
      refine g_goto hC 5 dJ7_fill_17 rfl ?_
      refine g_lv [1, 2, 0, 3] rfl ?_
      exact ih _ _
end FFill
theorem fill_mem {M M' : fMem} {q n : Nat} {v : Int} (h1 : ∀ p j, ¬ (p = q ∧ j < n) → M' p j = M p j) (h2 : ∀ j, j < n → M' q j = v) : M' = fun p j => if p = q ∧ j < n then v else M p j := by
  funext p j
  split
  · rename_i h
    rw [h.1]
    exact h2 j h.2
  · rename_i h
    exact h1 p j h
theorem cn_fillG (l : Launch) (cl : List vw_C) (tb : List fEn) (q n : Nat) (xs : List (Nat × Nat)) (he : tb[q]? = some (0, n, xs)) (hn : n ≤ 2147483647) (v : Int) (M : fMem) : fMt l cl tb yJ7_fill cJ7_fill 4 (none) 0 0 2 (fun ad => [.ref (ad q), .int (fI v)]) M (fFil M q n v) := by
  refine fMt.of (by decide +kernel) (fun _ => Nat.le_of_ble_eq_true rfl) (fun p e s m args below meth c D aC ad hC hr hk => ?_)
  have hW : fFil M q n v = dn_fill_L q n v (n + 1) 0 M := by
    obtain ⟨M', e1, e2, e3⟩ := dn_fill_eq q n hn v (n + 1) 0 M (by omega) (by omega) (fun j h => by omega)
    have e1 : dn_fill_L q n v (n + 1) 0 M = some (0, M') := e1
    rw [e1, fill_mem e2 e3]
    rfl
  rw [hW]
  refine g_iconst hC 1 dJ7_fill_0 rfl ?_
  refine g_istore_n hC 2 [(2, .int (fI 0)), (0, .ref (ad q)), (1, .int (fI v))] dJ7_fill_1 rfl (by decide) rfl rfl ?_
  refine g_aload_n hC 1 3 rfl dJ7_fill_2 rfl rfl ?_
  refine g_alen hC 4 he dJ7_fill_3 rfl ?_
  refine g_istore_n hC 5 [(3, .int (fI (n : Int))), (2, .int (fI 0)), (0, .ref (ad q)), (1, .int (fI v))] dJ7_fill_4 rfl (by decide) rfl rfl ?_
  refine g_lv [2, 3, 1, 0] rfl ?_
  exact wk_fill_L he hn v hC hr hk (n + 1) 0 M
theorem cn_fill (l : Launch) (q n : Nat) (he : TB[q]? = some (0, n, [])) (hn : n ≤ 2147483647) (v : Int) (M : fMem) : fMt l vwCl TB yJ7_fill cJ7_fill 4 (none) 0 0 2 (fun ad => [.ref (ad q), .int (fI v)]) M (fFil M q n v) := cn_fillG l vwCl TB q n [] he hn v M
