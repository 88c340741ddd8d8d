/-! a constructor's call: its little table joins the caller's -/
def sh (P : Nat) (x : fEn) : fEn := (x.1, x.2.1, x.2.2.map (fun q => if q.1 = 2 then (2, P + q.2) else q))
section GNj
variable {p : Program} {l : Launch} {e : Env} {R : Room} {s : State} {m : MethodId} {args : Array Value} {below : List Frame} {meth : Method} {c : Code} {cl : List vw_C} {D : va_G} {aC : Nat → ClassId} {tb : List fEn} {ad : Nat → Nat} {A : Nat → Prop} {nL cells slots : Nat} {Q : State → Prop}
variable {Ts : List Cond} {cc : ByteArray} {own : String} {pc : Nat} {lv : List (Nat × Value)} {st : List Value} {M : fMem}
theorem fEnt_sh {ad' ad1 : Nat → Nat} {P : Nat} (h : ∀ y, ad' (P + y) = ad1 y) (Mp : Nat → Int) (x : fEn) : fEnt aC ad' Mp (sh P x) = fEnt aC ad1 Mp x := by
  obtain ⟨t, k, qs⟩ := x
  match t with
  | 0 => rfl
  | 1 => rfl
  | 2 => rfl
  | 3 =>
    show (Sum.inl (aC k, (qs.map (fun q : Nat × Nat => if q.1 = 2 then (2, P + q.2) else q)).length, .inr (.inr (.inr (.inr (fun j : Nat => fRf ad' ((qs.map (fun q : Nat × Nat => if q.1 = 2 then (2, P + q.2) else q))[j]?)))))) : va_E) = Sum.inl (aC k, qs.length, .inr (.inr (.inr (.inr (fun j : Nat => fRf ad1 (qs[j]?))))))
    rw [List.length_map]
    congr 7
    funext j
    rw [List.getElem?_map]
    cases hj : qs[j]? with
    | none => rfl
    | some q =>
      obtain ⟨a, b⟩ := q
      match a with
      | 0 => rfl
      | 1 => rfl
      | 2 =>
        show some (ad' (P + b)) = some (ad1 b)
        rw [h b]
      | a + 3 =>
        show fRf ad' (some (if a + 3 = 2 then (2, P + b) else (a + 3, b))) = none
        rw [if_neg (by omega)]
        rfl
  | t + 4 =>
    show (Sum.inr (k, (qs.map (fun q : Nat × Nat => if q.1 = 2 then (2, P + q.2) else q)).mapIdx (fun j q => fVal ad' (Mp j) q)) : va_E) = Sum.inr (k, qs.mapIdx (fun j q => fVal ad1 (Mp j) q))
    congr 2
    apply List.ext_getElem?
    intro j
    rw [List.getElem?_mapIdx, List.getElem?_mapIdx, List.getElem?_map]
    cases hj : qs[j]? with
    | none => rfl
    | some q =>
      obtain ⟨a, b⟩ := q
      match a with
      | 0 => rfl
      | 1 => rfl
      | 2 =>
        show some (Value.ref (ad' (P + b))) = some (Value.ref (ad1 b))
        rw [h b]
      | a + 3 =>
        show some (fVal ad' (Mp j) (if a + 3 = 2 then (2, P + b) else (a + 3, b))) = some (fVal ad1 (Mp j) (a + 3, b))
        rw [if_neg (by omega)]
        rfl
def jM (P : Nat) (M M' : fMem) : fMem := fun q j => if q < P then M q j else M' (q - P) j
theorem fW_join {ad' ad1 : Nat → Nat} {T' : List fEn} {M' : fMem} (h1 : ∀ i, i < tb.length → ad' i = ad i) (h2 : ∀ y, ad' (tb.length + y) = ad1 y) (hok : tb.all (fLow tb.length) = true) : fW aC ad' (tb ++ T'.map (sh tb.length)) (jM tb.length M M') = fW aC ad tb M ++ fW aC ad1 T' M' := by
  unfold fW
  apply List.ext_getElem?
  intro k
  rw [List.getElem?_mapIdx]
  by_cases hk : k < tb.length
  · rw [List.getElem?_append_left hk, List.getElem?_append_left (by rw [List.length_mapIdx]; exact hk), List.getElem?_mapIdx]
    cases hx : tb[k]? with
    | none => rfl
    | some x =>
      show some (ad' k, fEnt aC ad' (jM tb.length M M' k) x) = some (ad k, fEnt aC ad (M k) x)
      have e1 : jM tb.length M M' k = M k := by
        funext j
        exact if_pos hk
      rw [e1, h1 k hk, fEnt_low h1 (List.all_eq_true.mp hok x (List.mem_of_getElem? hx))]
  · rw [List.getElem?_append_right (by omega), List.getElem?_append_right (by rw [List.length_mapIdx]; omega), List.length_mapIdx, List.getElem?_map, List.getElem?_mapIdx]
    cases hx : T'[k - tb.length]? with
    | none => rfl
    | some x =>
      show some (ad' k, fEnt aC ad' (jM tb.length M M' k) (sh tb.length x)) = some (ad1 (k - tb.length), fEnt aC ad1 (M' (k - tb.length)) x)
      have e1 : jM tb.length M M' k = M' (k - tb.length) := by
        funext j
        exact if_neg hk
      have e2 : ad' k = ad1 (k - tb.length) := by
        have := h2 (k - tb.length)
        rw [show tb.length + (k - tb.length) = k by omega] at this
        exact this
      rw [e1, e2, fEnt_sh h2]
theorem join_core {x : fEn} {T' : List fEn} {M' : fMem} {ad1 : Nat → Nat} {H H1 : Heap} (hC : fCx p s m args c cl D aC (tb ++ [x]) ad A Ts cc own nL) (hok : tb.all (fLow tb.length) = true) (hP : va_P D cl (fW aC ad (tb ++ [x]) M) H) (g0 : ad1 0 = ad tb.length) (hpos : 0 < T'.length) (gi : fInj ad1 T'.length) (gf : ∀ i, 1 ≤ i → i < T'.length → H.size ≤ ad1 i) (hAf : ∀ q, H.size ≤ q → A q) (hP1 : va_P D cl (fW aC ad1 T' M') H1) (hk : ∀ q, q < H.size → q ≠ ad tb.length → H1[q]? = H[q]?) :
    ∃ ad', (∀ i, i < tb.length + 1 → ad' i = ad i) ∧ fCx p s m args c cl D aC (tb ++ T'.map (sh tb.length)) ad' A Ts cc own nL ∧ va_P D cl (fW aC ad' (tb ++ T'.map (sh tb.length)) (jM tb.length M M')) H1 := by
  obtain ⟨c1, c2, c3, c4, c5, c6, c7, c8, c9⟩ := hC
  rw [List.length_append] at c7 c8
  have c7 : fInj ad (tb.length + 1) := c7
  have c8 : ∀ i, i < tb.length + 1 → A (ad i) := c8
  have h1 : ∀ i, i < tb.length → (fun i => if i < tb.length then ad i else ad1 (i - tb.length)) i = ad i := fun i hi => if_pos hi
  have h2 : ∀ y, (fun i => if i < tb.length then ad i else ad1 (i - tb.length)) (tb.length + y) = ad1 y := fun y => by
    show (if tb.length + y < tb.length then ad (tb.length + y) else ad1 (tb.length + y - tb.length)) = ad1 y
    rw [if_neg (by omega), Nat.add_sub_cancel_left]
  generalize (fun i => if i < tb.length then ad i else ad1 (i - tb.length)) = ad' at h1 h2
  have hPt : va_P D cl (fW aC ad tb M) H := fun k q hq => hP k q (by
    have hl : k < (fW aC ad tb M).length := (List.getElem?_eq_some_iff.mp hq).1
    rw [fW_push, List.getElem?_append_left hl]
    exact hq)
  have hlt : ∀ i, i < tb.length → ad i < H.size := fun i hi => by
    have := (hPt i _ (fW_get (List.getElem?_eq_getElem hi))).lt
    exact this
  have hlast : ad' tb.length = ad tb.length := (h2 0).trans g0
  have hag : ∀ i, i < tb.length + 1 → ad' i = ad i := fun i hi => by
    by_cases h : i < tb.length
    · exact h1 i h
    · rw [show i = tb.length by omega]; exact hlast
  have hup : ∀ i, tb.length < i → i < tb.length + T'.length → H.size ≤ ad' i := fun i a1 a2 => by
    have := h2 (i - tb.length)
    rw [show tb.length + (i - tb.length) = i by omega] at this
    rw [this]
    exact gf _ (by omega) (by omega)
  refine ⟨ad', hag, ⟨c1, c2, c3, c4, c5, c6, fun i j hi hj hij => ?_, fun i hi => ?_, c9⟩, ?_⟩
  · rw [List.length_append, List.length_map] at hi hj
    by_cases a1 : i < tb.length + 1
    · by_cases a2 : j < tb.length + 1
      · rw [hag i a1, hag j a2] at hij
        exact c7 i j a1 a2 hij
      · have hj' := hup j (by omega) hj
        by_cases a3 : i < tb.length
        · rw [h1 i a3] at hij
          have := hlt i a3
          omega
        · have hi0 : i = tb.length := by omega
          have := h2 (j - tb.length)
          rw [show tb.length + (j - tb.length) = j by omega] at this
          have e0 := h2 0
          rw [Nat.add_zero] at e0
          rw [hi0, e0, this] at hij
          have := gi 0 (j - tb.length) hpos (by omega) hij
          omega
    · by_cases a2 : j < tb.length
      · rw [h1 j a2] at hij
        have := hlt j a2
        have := hup i (by omega) hi
        omega
      · have e1 := h2 (i - tb.length)
        rw [show tb.length + (i - tb.length) = i by omega] at e1
        have e2 := h2 (j - tb.length)
        rw [show tb.length + (j - tb.length) = j by omega] at e2
        rw [e1, e2] at hij
        have := gi (i - tb.length) (j - tb.length) (by omega) (by omega) hij
        omega
  · rw [List.length_append, List.length_map] at hi
    by_cases a1 : i < tb.length + 1
    · rw [hag i a1]; exact c8 i a1
    · exact hAf _ (hup i (by omega) hi)
  · rw [fW_join h1 h2 hok]
    refine va_P.app (hPt.kept (fun k q hq => ?_)) hP1
    obtain ⟨x1, hx1, rfl⟩ := fW_of hq
    have hkl := (List.getElem?_eq_some_iff.mp hx1).1
    exact hk (ad k) (hlt k hkl) (fun z => by have := c7 k tb.length (by omega) (by omega) z; omega)
theorem n_cI_core {x : fEn} {T' : List fEn} {M' : fMem} {mc ms : Nat} {arr : Array Value} (hC : fCx p s m args c cl D aC (tb ++ [x]) ad A Ts cc own nL) (hA : ∀ q, s.heap.size ≤ q → A q) (hok : tb.all (fLow tb.length) = true) (hpos : 0 < T'.length) (lvF : (Nat → Nat) → List (Nat × Value)) (stF : (Nat → Nat) → List Value) (hlv : ∀ ad', (∀ i, i < tb.length + 1 → ad' i = ad i) → lvF ad' = lvF ad) (hst : ∀ ad', (∀ i, i < tb.length + 1 → ad' i = ad i) → stF ad' = stF ad) (pc' : Nat) (hp : pc + 3 = pc')
    (hr : ∀ (H : Heap) (locs : List Loc) (ls : Array Slot), lv_has ls nL (lvF ad) → va_P D cl (fW aC ad (tb ++ [x]) M) H → va_S A s.heap H locs → va_Run p l e R s m args below meth c H locs cells slots mc ms (F0 m pc ls (.ref (ad tb.length) :: stF ad)) (stF ad) (fNq cl D aC (fun i => ad (tb.length + i)) H.size T' M' arr) (fNA (fun i => ad (tb.length + i)) H.size))
    (k : ∀ ad', (∀ i, i < tb.length + 1 → ad' i = ad i) → fCx p s m args c cl D aC (tb ++ T'.map (sh tb.length)) ad' A Ts cc own nL → GN p l e R s m args below meth c cl D aC (tb ++ T'.map (sh tb.length)) ad' A nL (cells + mc) (slots + ms) Q pc' (lvF ad') (stF ad') (jM tb.length M M')) : GN p l e R s m args below meth c cl D aC (tb ++ [x]) ad A nL cells slots Q pc (lvF ad) (.ref (ad tb.length) :: stF ad) M := by
  subst hp
  intro H locs ls hl hP hS
  have hrun := hr H locs ls hl hP hS
  intro T hT X
  obtain ⟨v', st₀, t, T2, L, h0, X', hL, e1, e2, ⟨hv, ⟨ad1, a0, ai, af, hP1⟩, hz, hk⟩, stp⟩ := hrun T hT X
  have hv' : v' = none := by injection hv
  subst hv'
  rw [h0] at hz hk
  have hAf : ∀ q, H.size ≤ q → A q := fun q hq => hA q (Nat.le_trans hS.1 hq)
  have hfr : ∀ q, fNA (fun i => ad (tb.length + i)) H.size q → A q := by
    rintro q (h | h)
    · rw [h]
      exact hC.2.2.2.2.2.2.2.1 tb.length (by rw [List.length_append]; exact Nat.lt_succ_self _)
    · exact hAf q h
  obtain ⟨ad', g1, g2, g3⟩ := join_core (H1 := t.heap) hC hok hP a0 hpos ai af hAf hP1 (fun q q1 q2 => hk q q1 (fun z => z.elim q2 (fun w => by omega)))
  have hS1 : va_S A s.heap T2.heap (locs ++ L) := ⟨Nat.le_trans hS.1 (by rw [e1]; exact hz), fun q h1 h2 => by rw [e1, hk q (Nat.lt_of_lt_of_le h1 hS.1) (fun z => h2 (hfr q z))]; exact hS.2.1 q h1 h2, fun q hq => by
    rcases List.mem_append.mp hq with h | h
    · exact hS.2.2 q h
    · exact hfr _ (hL q h)⟩
  have kk := k ad' g1 g2 T2.heap (locs ++ L) ls (by rw [hlv ad' g1]; exact hl) (by rw [e1]; exact g3) hS1
  rw [hst ad' g1] at kk
  obtain ⟨t2, a1, b1⟩ := kk T2 rfl X'
  exact ⟨t2, stp t2 a1, b1⟩
theorem cI_pre {x : fEn} {H : Heap} (hC : fCx p s m args c cl D aC (tb ++ [x]) ad A goodTs cc own nL) (hz : ∀ j, M tb.length j = 0) (hx : fLow 0 x = true) (hao : fAO s) (hP : va_P D cl (fW aC ad (tb ++ [x]) M) H) : PreS s H (va_Pc [.ref (ad tb.length)] (fNok cl D aC (fun i => ad (tb.length + i)) x H.size)) [.ref (ad tb.length)] := by
  refine ⟨fNok.blind, fun U hU hW => ⟨rfl, ⟨?_, va_K.moved hW.alike hC.2.2.2.2.2.1, fun i j hi hj _ => ?_, fNw.warm hW hC.2.2.2.2.2.2.2.2⟩, hao.moved hW.alike, by rw [hU]⟩⟩
  · rw [hU]
    intro k q hq
    have hk0 : k = 0 := by
      have := (List.getElem?_eq_some_iff.mp hq).1
      unfold fW at this
      rw [List.length_mapIdx] at this
      exact Nat.lt_one_iff.mp this
    subst hk0
    have hq' : (ad tb.length, fEnt aC (fun i => ad (tb.length + i)) (fun _ => 0) x) = q := Option.some.inj hq
    subst hq'
    have h1 := hP tb.length (ad tb.length, fEnt aC ad (M tb.length) x) (by rw [fW_push, List.getElem?_append_right (by unfold fW; rw [List.length_mapIdx]; exact Nat.le_refl _)]; unfold fW; rw [List.length_mapIdx, Nat.sub_self]; rfl)
    rw [show M tb.length = fun _ => 0 from funext hz, ← fEnt_low (ad' := fun i => ad (tb.length + i)) (n := 0) (fun i hi => absurd hi (Nat.not_lt_zero _)) hx] at h1
    exact h1
  · have h1 : i = 0 := Nat.lt_one_iff.mp hi
    have h2 : j = 0 := Nat.lt_one_iff.mp hj
    rw [h1, h2]
theorem n_cI {x : fEn} {T' : List fEn} {M' : fMem} {y : MethodName} {bytes : ByteArray} {mLc fr lo mc ms index : Nat} (hC : fCx p s m args c cl D aC (tb ++ [x]) ad A goodTs cc own nL) (hA : ∀ q, s.heap.size ≤ q → A q) (hok : tb.all (fLow tb.length) = true) (hz : ∀ j, M tb.length j = 0) (hx : fLow 0 x = true) (hao : fAO s) (hM : fNt l cl x T' y bytes mLc fr lo mc ms M') (hpos : 0 < T'.length) (lvF : (Nat → Nat) → List (Nat × Value)) (stF : (Nat → Nat) → List Value) (hlv : ∀ ad', (∀ i, i < tb.length + 1 → ad' i = ad i) → lvF ad' = lvF ad) (hst : ∀ ad', (∀ i, i < tb.length + 1 → ad' i = ad i) → stF ad' = stF ad)
    (hw : Cond.methodLink own index y ∈ goodTs) (hcode : Cond.code y bytes mLc none ∈ goodTs) (hini : Cond.initialized y.cls ∈ goodTs) (hi : Cond.instanceMethod y ∈ goodTs) (hyn : y.name = "<init>") (hdd : y.cls ≠ "java/lang/invoke/MethodHandle" ∧ y.cls ≠ "java/lang/invoke/VarHandle" ∧ (parseMethodDescriptor y.desc).map (fun d => d.parameters.length) = some 0) (hR : fr + 1 ≤ R.frames ∧ 8 + (mLc + 11) + lo ≤ R.locals) (hst8 : ((stF ad).map fun v => v.category).sum ≤ 8) (hcs : cells + mc ≤ R.cells ∧ slots + ms ≤ R.slots) (hd : decode cc pc = .ok (.invokespecial index, 3)) (pc' : Nat) (hp : pc + 3 = pc')
    (k : ∀ ad', (∀ i, i < tb.length + 1 → ad' i = ad i) → fCx p s m args c cl D aC (tb ++ T'.map (sh tb.length)) ad' A goodTs cc own nL → GN p l e R s m args below meth c cl D aC (tb ++ T'.map (sh tb.length)) ad' A nL (cells + mc) (slots + ms) Q pc' (lvF ad') (stF ad') (jM tb.length M M')) : GN p l e R s m args below meth c cl D aC (tb ++ [x]) ad A nL cells slots Q pc (lvF ad) (.ref (ad tb.length) :: stF ad) M := by
  refine n_cI_core (arr := ([Value.ref (ad tb.length)] : List Value).toArray) hC hA hok hpos lvF stF hlv hst pc' hp (fun H locs ls hl hP hS => ?_) k
  exact va_runI (Ts := goodTs) (As := []) (rest := stF ad) ⟨hC.1, hC.2.1, hC.2.2.1, hC.2.2.2.1, hC.2.2.2.2.1⟩ (hM D aC (fun i => ad (tb.length + i)) H.size) ⟨callB_of 0 hC.2.2.2.2.1 (goodTs_in hcode rfl) rfl rfl rfl (hC.2.2.2.2.1 _ hini) (hC.2.2.2.2.1 _ hw) hdd hR, hyn, hC.2.2.2.2.1 _ hi⟩ (cI_pre hC hz hx hao hP) rfl rfl hl.1 rfl (lv_room hst8) hd hcs
theorem n_cIN {x : fEn} {T' : List fEn} {M' : fMem} {y : MethodName} {bytes : ByteArray} {mLc fr lo mc ms index : Nat} {host : String} (hC : fCx p s m args c cl D aC (tb ++ [x]) ad A goodTs cc own nL) (hA : ∀ q, s.heap.size ≤ q → A q) (hok : tb.all (fLow tb.length) = true) (hz : ∀ j, M tb.length j = 0) (hx : fLow 0 x = true) (hao : fAO s) (hM : fNt l cl x T' y bytes mLc fr lo mc ms M') (hpos : 0 < T'.length) (lvF : (Nat → Nat) → List (Nat × Value)) (stF : (Nat → Nat) → List Value) (hlv : ∀ ad', (∀ i, i < tb.length + 1 → ad' i = ad i) → lvF ad' = lvF ad) (hst : ∀ ad', (∀ i, i < tb.length + 1 → ad' i = ad i) → stF ad' = stF ad)
    (hw : Cond.methodLinkNest own index y host ∈ lw_tbl) (hcode : Cond.code y bytes mLc none ∈ goodTs) (hini : Cond.initialized y.cls ∈ goodTs) (hi : Cond.instanceMethod y ∈ goodTs) (hyn : y.name = "<init>") (hdd : y.cls ≠ "java/lang/invoke/MethodHandle" ∧ y.cls ≠ "java/lang/invoke/VarHandle" ∧ (parseMethodDescriptor y.desc).map (fun d => d.parameters.length) = some 0) (hR : fr + 1 ≤ R.frames ∧ 8 + (mLc + 11) + lo ≤ R.locals) (hst8 : ((stF ad).map fun v => v.category).sum ≤ 8) (hcs : cells + mc ≤ R.cells ∧ slots + ms ≤ R.slots) (hd : decode cc pc = .ok (.invokespecial index, 3)) (pc' : Nat) (hp : pc + 3 = pc')
    (k : ∀ ad', (∀ i, i < tb.length + 1 → ad' i = ad i) → fCx p s m args c cl D aC (tb ++ T'.map (sh tb.length)) ad' A goodTs cc own nL → GN p l e R s m args below meth c cl D aC (tb ++ T'.map (sh tb.length)) ad' A nL (cells + mc) (slots + ms) Q pc' (lvF ad') (stF ad') (jM tb.length M M')) : GN p l e R s m args below meth c cl D aC (tb ++ [x]) ad A nL cells slots Q pc (lvF ad) (.ref (ad tb.length) :: stF ad) M := by
  refine n_cI_core (arr := ([Value.ref (ad tb.length)] : List Value).toArray) hC hA hok hpos lvF stF hlv hst pc' hp (fun H locs ls hl hP hS => ?_) k
  exact va_runIN (Ts := goodTs) (As := []) (rest := stF ad) ⟨hC.1, hC.2.1, hC.2.2.1, hC.2.2.2.1, hC.2.2.2.2.1⟩ (hM D aC (fun i => ad (tb.length + i)) H.size) ⟨va_cnB 0 hC.2.2.2.2.1 (goodTs_in hcode rfl) rfl rfl rfl (hC.2.2.2.2.2.2.2.2 _ hw rfl) (hC.2.2.2.2.1 _ hini) hdd hR, hyn, hC.2.2.2.2.1 _ hi⟩ (cI_pre hC hz hx hao hP) rfl rfl hl.1 rfl (lv_room hst8) hd hcs
end GNj
