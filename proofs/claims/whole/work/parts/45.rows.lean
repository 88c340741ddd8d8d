/-! an array of arrays, made at once -/
section GNm
variable {p : Program} {l : Launch} {e : Env} {R : Room} {s : State} {m : MethodId} {args : Array Value} {below : List Frame} {meth : Method} {c : Code} {cl : List vw_C} {D : va_G} {aC : Nat → ClassId} {tb : List fEn} {ad : Nat → Nat} {A : Nat → Prop} {nL cells slots : Nat} {Q : State → Prop}
variable {Ts : List Cond} {cc : ByteArray} {own : String} {pc : Nat} {lv : List (Nat × Value)} {st : List Value} {M : fMem}
theorem outer_arr (c : ClassId) (N h0 : Nat) : ∀ i : Nat, Jvm.Free.Multi.outerC c N h0 i = arrV c N (fun j => if j < i then Value.ref (h0 + 1 + j) else Value.null)
  | 0 => by
    have e0 : (fun j : Nat => if j < 0 then Value.ref (h0 + 1 + j) else Value.null) = fun _ => Value.null := funext fun j => if_neg (Nat.not_lt_zero _)
    rw [e0]
    exact arrV_new c N Value.null
  | i + 1 => by
    show (Jvm.Free.Multi.outerC c N h0 i).setSlot i (.ref (h0 + 1 + i)) = _
    rw [outer_arr c N h0 i, arrV_store]
    congr 1
    funext j
    unfold updV
    by_cases h : j = i
    · subst h
      rw [if_pos rfl, if_pos (Nat.lt_succ_self _)]
    · rw [if_neg h]
      show (if j < i then Value.ref (h0 + 1 + j) else Value.null) = _
      by_cases h2 : j < i
      · rw [if_pos h2, if_pos (by omega)]
      · rw [if_neg h2, if_neg (by omega)]
def mRows (N K : Nat) : List fEn := (3, 5, (List.range N).map (fun i => (2, 1 + i))) :: List.replicate N (0, K, [])
theorem join0 {T' : List fEn} {M' : fMem} {ad1 : Nat → Nat} {H H1 : Heap} (hC : fCx p s m args c cl D aC tb ad A Ts cc own nL) (hok : tb.all (fLow tb.length) = true) (hP : va_P D cl (fW aC ad tb M) H) (gi : fInj ad1 T'.length) (gf : ∀ i, i < T'.length → H.size ≤ ad1 i) (hAf : ∀ q, H.size ≤ q → A q) (hP1 : va_P D cl (fW aC ad1 T' M') H1) (hk : ∀ q, q < H.size → H1[q]? = H[q]?) :
    ∃ ad', (∀ i, i < tb.length → ad' i = ad i) ∧ (∀ y, ad' (tb.length + y) = ad1 y) ∧ fCx p s m args c cl D aC (tb ++ T'.map (sh tb.length)) ad' A Ts cc own nL ∧ va_P D cl (fW aC ad' (tb ++ T'.map (sh tb.length)) (jM tb.length M M')) H1 := by
  obtain ⟨c1, c2, c3, c4, c5, c6, c7, c8, c9⟩ := hC
  have h1 : ∀ i, i < tb.length → (fun i => if i < tb.length then ad i else ad1 (i - tb.length)) i = ad i := fun i hi => if_pos hi
  have h2 : ∀ y, (fun i => if i < tb.length then ad i else ad1 (i - tb.length)) (tb.length + y) = ad1 y := fun y => by
    show (if tb.length + y < tb.length then ad (tb.length + y) else ad1 (tb.length + y - tb.length)) = ad1 y
    rw [if_neg (by omega), Nat.add_sub_cancel_left]
  generalize (fun i => if i < tb.length then ad i else ad1 (i - tb.length)) = ad' at h1 h2
  have hlt : ∀ i, i < tb.length → ad i < H.size := fun i hi => by
    have := (hP i _ (fW_get (List.getElem?_eq_getElem hi))).lt
    exact this
  have h3 : ∀ i, tb.length ≤ i → ad' i = ad1 (i - tb.length) := fun i hi => by
    have := h2 (i - tb.length)
    rw [show tb.length + (i - tb.length) = i by omega] at this
    exact this
  refine ⟨ad', h1, h2, ⟨c1, c2, c3, c4, c5, c6, fun i j hi hj hij => ?_, fun i hi => ?_, c9⟩, ?_⟩
  · rw [List.length_append, List.length_map] at hi hj
    by_cases a1 : i < tb.length
    · by_cases a2 : j < tb.length
      · rw [h1 i a1, h1 j a2] at hij
        exact c7 i j a1 a2 hij
      · rw [h1 i a1, h3 j (by omega)] at hij
        have := hlt i a1
        have := gf (j - tb.length) (by omega)
        omega
    · by_cases a2 : j < tb.length
      · rw [h1 j a2, h3 i (by omega)] at hij
        have := hlt j a2
        have := gf (i - tb.length) (by omega)
        omega
      · rw [h3 i (by omega), h3 j (by omega)] at hij
        have := gi (i - tb.length) (j - tb.length) (by omega) (by omega) hij
        omega
  · rw [List.length_append, List.length_map] at hi
    by_cases a1 : i < tb.length
    · rw [h1 i a1]; exact c8 i a1
    · rw [h3 i (by omega)]
      exact hAf _ (gf _ (by omega))
  · rw [fW_join h1 h2 hok]
    refine va_P.app (hP.kept (fun k q hq => ?_)) hP1
    obtain ⟨x1, hx1, rfl⟩ := fW_of hq
    exact hk (ad k) (hlt k (List.getElem?_eq_some_iff.mp hx1).1)
theorem n_mna (hC : fCx p s m args c cl D aC tb ad A Ts cc own nL) (hA : ∀ q, s.heap.size ≤ q → A q) (hok : tb.all (fLow tb.length) = true) (N K : Nat) {index : Nat} (hao : fAO s) (lvF : (Nat → Nat) → List (Nat × Value)) (stF : (Nat → Nat) → List Value) (hlv : ∀ ad', (∀ i, i < tb.length → ad' i = ad i) → lvF ad' = lvF ad) (hst : ∀ ad', (∀ i, i < tb.length → ad' i = ad i) → stF ad' = stF ad)
    (hcl : Cond.classLink own index ("[" ++ (FieldType.array .int).toString) ∈ Ts) (harr : Cond.arrayClass .int ∈ Ts) (hN : N < 10000) (hK : K < 10000) (hcells : cells + (1 + N) ≤ R.cells) (hslots : slots + (N + N * K) ≤ R.slots) (hd : decode cc pc = .ok (.multianewarray index 2, 4)) (pc' : Nat) (hp : pc + 4 = pc')
    (k : ∀ ad', (∀ i, i < tb.length → ad' i = ad i) → fCx p s m args c cl D aC (tb ++ (mRows N K).map (sh tb.length)) ad' A Ts cc own nL → GN p l e R s m args below meth c cl D aC (tb ++ (mRows N K).map (sh tb.length)) ad' A nL (cells + 1 + N) (slots + N + N * K) Q pc' (lvF ad') (.ref (ad' tb.length) :: stF ad') (jM tb.length M (fun _ _ => 0))) : GN p l e R s m args below meth c cl D aC tb ad A nL cells slots Q pc (lvF ad) (.int (fI (K : Int)) :: .int (fI (N : Int)) :: stF ad) M := by
  subst hp
  intro H locs ls hl hP hS
  obtain ⟨hn1, hn2⟩ := fI_nat (N := N) (by omega)
  obtain ⟨hk1, hk2⟩ := fI_nat (N := K) (by omega)
  intro T hT X
  obtain ⟨vm₁, cA, comp, -, fA, fC, hO, -, X', step⟩ := X.multianewarray2F hC.1 (ty := .int) hC.2.2.2.1 (hC.2.2.2.2.1 _ hcl) (arrayOver_alikeB (Vm.Alike.refl s.vm) hao.2.2) (hC.2.2.2.2.1 _ harr) (g := F0 m pc ls (.int (fI (K : Int)) :: .int (fI (N : Int)) :: stF ad)) rfl (by rw [hC.2.1]; exact hd) rfl hn1 hk1 (by rw [hn2]; omega) (by rw [hk2]; show K * 4 ≤ _; omega) (by rw [hk2]; omega) rfl rfl (by rw [hn2]; exact hcells) (by rw [hn2, hk2]; exact hslots)
  rw [hn2, hk2] at X' step
  have hcA : cA = aC 5 := by
    have h1 : s.vm.findClass ("[" ++ (FieldType.array .int).toString) = some (aC 5) := (hC.2.2.2.2.2.1.2 5 _ rfl).2
    exact Option.some.inj (fA.symm.trans h1)
  have hcm : comp = aC 0 := by
    have h1 : s.vm.findClass ("[" ++ FieldType.int.toString) = some (aC 0) := (hC.2.2.2.2.2.1.2 0 _ rfl).2
    exact Option.some.inj (fC.symm.trans h1)
  subst hcA
  subst hcm
  generalize hF : Jvm.Free.Multi.fill (T.setVm vm₁) (aC 5) (aC 0) N K (defaultValue .int) N = F at X' step
  have hTh : (T.setVm vm₁).heap = H := hT
  obtain ⟨f1, f2, -⟩ := Jvm.Free.Multi.fill_facts (T.setVm vm₁) (aC 5) (aC 0) N K (defaultValue .int) N
  rw [hF, hTh] at f1 f2
  have hold : ∀ x : Nat, x < H.size → F.heap[x]? = H[x]? := fun x hx => by
    have := Jvm.Free.Multi.fill_old (T.setVm vm₁) (aC 5) (aC 0) N K (defaultValue .int) (a := x) (by rw [hTh]; exact hx) N
    rw [hF, hTh] at this
    exact this
  have hrow : ∀ j : Nat, j < N → F.heap[H.size + 1 + j]? = some (arrV (aC 0) K (fun _ => defaultValue .int)) := fun j hj => by
    have := Jvm.Free.Multi.fill_inner (T.setVm vm₁) (aC 5) (aC 0) N K (defaultValue .int) N j hj
    rw [hF, hTh] at this
    rw [this]
    congr 1
    exact arrV_new (aC 0) K (defaultValue .int)
  rw [outer_arr] at f2
  have hlen : (mRows N K).length = 1 + N := by
    unfold mRows
    rw [List.length_cons, List.length_replicate]
    omega
  have hP1 : va_P D cl (fW aC (fun i => H.size + i) (mRows N K) (fun _ _ => 0)) F.heap := by
    intro kk q hq
    obtain ⟨x, hx, rfl⟩ := fW_of hq
    cases kk with
    | zero =>
      have hx' : (3, 5, (List.range N).map (fun i => ((2, 1 + i) : Nat × Nat))) = x := Option.some.inj hx
      subst hx'
      show F.heap[H.size + 0]? = some (vp_cell (aC 5) (((List.range N).map (fun i => ((2, 1 + i) : Nat × Nat))).length, .inr (.inr (.inr (.inr (fun j : Nat => fRf (fun i => H.size + i) (((List.range N).map (fun i => ((2, 1 + i) : Nat × Nat)))[j]?)))))))
      rw [Nat.add_zero, f2, vp_cell_q, List.length_map, List.length_range]
      congr 2
      funext j
      rw [List.getElem?_map]
      by_cases hj : j < N
      · rw [if_pos hj, List.getElem?_range hj]
        show Value.ref (H.size + 1 + j) = Value.ref (H.size + (1 + j))
        rw [Nat.add_assoc]
      · rw [if_neg hj, List.getElem?_eq_none (by rw [List.length_range]; omega)]
        rfl
    | succ j =>
      have hx2 : (List.replicate N ((0, K, []) : fEn))[j]? = some x := hx
      rw [List.getElem?_replicate] at hx2
      by_cases hj : j < N
      · rw [if_pos hj] at hx2
        have hx' := Option.some.inj hx2
        subst hx'
        show F.heap[H.size + (j + 1)]? = some (vp_cell (aC 0) (K, .inl (fun _ => fI 0)))
        rw [show H.size + (j + 1) = H.size + 1 + j by omega, hrow j hj, vp_cell_i]
        rfl
      · rw [if_neg hj] at hx2
        cases hx2
  have hAf : ∀ q, H.size ≤ q → A q := fun q hq => hA q (Nat.le_trans hS.1 hq)
  obtain ⟨ad', g1, g2, g3, g4⟩ := join0 hC hok hP (fun i j _ _ h => by have h9 : H.size + i = H.size + j := h; omega) (fun i _ => Nat.le_add_right _ _) hAf hP1 hold
  have g0 : ad' tb.length = H.size := by
    have := g2 0
    exact this
  have hS1 : va_S A s.heap F.heap locs := ⟨by rw [f1]; have := hS.1; omega, fun x h1 h2 => (hold x (Nat.lt_of_lt_of_le h1 hS.1)).trans (hS.2.1 x h1 h2), hS.2.2⟩
  have hh := k ad' g1 g3 F.heap locs ls (by rw [hlv ad' g1]; exact hl) g4 hS1
  rw [g0, hst ad' g1] at hh
  obtain ⟨t2, a1, b1⟩ := hh F rfl X'
  refine ⟨t2, step t2 ?_, b1⟩
  rw [hT]
  exact a1
end GNm
section GNc
variable {p : Program} {l : Launch} {e : Env} {R : Room} {s : State} {m : MethodId} {args : Array Value} {below : List Frame} {meth : Method} {c : Code} {cl : List vw_C} {D : va_G} {aC : Nat → ClassId} {tb : List fEn} {ad : Nat → Nat} {A : Nat → Prop} {nL cells slots : Nat} {Q : State → Prop}
variable {Ts : List Cond} {cc : ByteArray} {own : String} {pc : Nat} {lv : List (Nat × Value)} {st : List Value} {M : fMem}
theorem n_ge_f (hC : fCx p s m args c cl D aC tb ad A Ts cc own nL) {a b off : Int} (tgt pc' : Nat) (hi : InI b ∧ InI a) (hn : ¬ b ≤ a) (hd : decode cc pc = .ok (.if_icmp .ge off, 3)) (ht : (pc : Int) + off = (tgt : Int)) (hp : pc + 3 = pc') (k : GN p l e R s m args below meth c cl D aC tb ad A nL cells slots Q pc' lv st M) : GN p l e R s m args below meth c cl D aC tb ad A nL cells slots Q pc lv (.int (fI b) :: .int (fI a) :: st) M := by
  refine GN.of ?_
  have h := g_icmp_ge (a := a) (b := b) (dT := none) (dF := some (0, M)) hC tgt pc' hd ht hp g_none (GN.to k)
  rw [e_Lef hi hn] at h
  exact h
theorem n_ge_t (hC : fCx p s m args c cl D aC tb ad A Ts cc own nL) {a b off : Int} (tgt pc' : Nat) (hi : InI b ∧ InI a) (hn : b ≤ a) (hd : decode cc pc = .ok (.if_icmp .ge off, 3)) (ht : (pc : Int) + off = (tgt : Int)) (hp : pc + 3 = pc') (k : GN p l e R s m args below meth c cl D aC tb ad A nL cells slots Q tgt lv st M) : GN p l e R s m args below meth c cl D aC tb ad A nL cells slots Q pc lv (.int (fI b) :: .int (fI a) :: st) M := by
  refine GN.of ?_
  have h := g_icmp_ge (a := a) (b := b) (dT := some (0, M)) (dF := none) hC tgt pc' hd ht hp (GN.to k) g_none
  rw [e_Let hi hn] at h
  exact h
theorem n_alenq (hC : fCx p s m args c cl D aC tb ad A Ts cc own nL) {q kC : Nat} {qs : List (Nat × Nat)} {ty : FieldType} (pc' : Nat) (he : tb[q]? = some (3, kC, qs)) (hkC : (fTY aC)[kC]? = some (aC kC, ty)) (hd : decode cc pc = .ok (.arraylength, 1)) (hp : pc + 1 = pc') (k : GN p l e R s m args below meth c cl D aC tb ad A nL cells slots Q pc' lv (.int (fI (qs.length : Int)) :: st) M) : GN p l e R s m args below meth c cl D aC tb ad A nL cells slots Q pc lv (.ref (ad q) :: st) M := by
  subst hp
  exact fun H locs ls hl hP hS => va_alen (ty := ty) hC.1 hC.2.1 hC.2.2.2.2.2.1 hP q kC (fW_get he) hkC (fI_ofNat qs.length) hd (k H locs ls hl hP hS)
end GNc
