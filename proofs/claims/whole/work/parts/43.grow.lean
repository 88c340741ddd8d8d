/-! worlds that grow: for the constructors -/
/-- a walk with a memory that is known -/
def GN (p : Program) (l : Launch) (e : Env) (R : Room) (s : State) (m : MethodId) (args : Array Value) (below : List Frame) (meth : Method) (c : Code) (cl : List vw_C) (D : va_G) (aC : Nat → ClassId) (tb : List fEn) (ad : Nat → Nat) (A : Nat → Prop) (nL cells slots : Nat) (Q : State → Prop) (pc : Nat) (lv : List (Nat × Value)) (st : List Value) (M : fMem) : Prop :=
  ∀ (H : Heap) (locs : List Loc) (ls : Array Slot), lv_has ls nL lv → va_P D cl (fW aC ad tb M) H → va_S A s.heap H locs → W p l e R s m args below meth c H locs cells slots Q (F0 m pc ls st)
section GNs
variable {p : Program} {l : Launch} {e : Env} {R : Room} {s : State} {m : MethodId} {args : Array Value} {below : List Frame} {meth : Method} {c : Code} {cl : List vw_C} {D : va_G} {aC : Nat → ClassId} {tb : List fEn} {ad : Nat → Nat} {A : Nat → Prop} {nL cells slots : Nat} {Q : State → Prop}
variable {Ts : List Cond} {cc : ByteArray} {own : String} {pc : Nat} {lv : List (Nat × Value)} {st : List Value} {M : fMem}
theorem GN.of (h : GO p l e R s m args below meth c cl D aC tb ad A nL cells slots (fun _ => Q) pc lv st M (some (0, M))) : GN p l e R s m args below meth c cl D aC tb ad A nL cells slots Q pc lv st M := fun H locs ls h1 h2 h3 => h _ rfl H locs ls h1 h2 h3
theorem GN.to (h : GN p l e R s m args below meth c cl D aC tb ad A nL cells slots Q pc lv st M) : GO p l e R s m args below meth c cl D aC tb ad A nL cells slots (fun _ => Q) pc lv st M (some (0, M)) := fun _ _ H locs ls h1 h2 h3 => h H locs ls h1 h2 h3
/-- all references of an entry lie below n -/
def fLow (n : Nat) (x : fEn) : Bool := x.2.2.all (fun q => !(q.1 == 2) || decide (q.2 < n))
theorem fVal_low {ad ad' : Nat → Nat} {n : Nat} (h : ∀ i, i < n → ad' i = ad i) {q : Nat × Nat} (hq : (!(q.1 == 2) || decide (q.2 < n)) = true) (v : Int) : fVal ad' v q = fVal ad v q := by
  obtain ⟨a, b⟩ := q
  match a with
  | 0 => rfl
  | 1 => rfl
  | 2 =>
    have hb : b < n := by simpa using hq
    show Value.ref (ad' b) = Value.ref (ad b)
    rw [h b hb]
  | a + 3 => rfl
theorem fEnt_low {ad ad' : Nat → Nat} {n : Nat} (h : ∀ i, i < n → ad' i = ad i) {x : fEn} (hx : fLow n x = true) (Mp : Nat → Int) : fEnt aC ad' Mp x = fEnt aC ad Mp x := by
  obtain ⟨t, k, qs⟩ := x
  have hq : ∀ q ∈ qs, (!(q.1 == 2) || decide (q.2 < n)) = true := List.all_eq_true.mp hx
  match t with
  | 0 => rfl
  | 1 => rfl
  | 2 => rfl
  | 3 =>
    show (Sum.inl (aC k, qs.length, .inr (.inr (.inr (.inr (fun j => fRf ad' (qs[j]?)))))) : va_E) = Sum.inl (aC k, qs.length, .inr (.inr (.inr (.inr (fun j => fRf ad (qs[j]?))))))
    have e1 : (fun j : Nat => fRf ad' (qs[j]?)) = fun j : Nat => fRf ad (qs[j]?) := by
      funext j
      cases hj : qs[j]? with
      | none => rfl
      | some q =>
        obtain ⟨a, b⟩ := q
        have h2 := hq _ (List.mem_of_getElem? hj)
        match a with
        | 0 => rfl
        | 1 => rfl
        | 2 =>
          have hb : b < n := by simpa using h2
          show some (ad' b) = some (ad b)
          rw [h b hb]
        | a + 3 => rfl
    rw [e1]
  | t + 4 =>
    show (Sum.inr (k, qs.mapIdx (fun j q => fVal ad' (Mp j) q)) : va_E) = Sum.inr (k, qs.mapIdx (fun j q => fVal ad (Mp j) q))
    congr 2
    apply List.ext_getElem?
    intro j
    rw [List.getElem?_mapIdx, List.getElem?_mapIdx]
    cases hj : qs[j]? with
    | none => rfl
    | some q =>
      show some (fVal ad' (Mp j) q) = some (fVal ad (Mp j) q)
      rw [fVal_low h (hq _ (List.mem_of_getElem? hj))]
theorem fW_low {ad ad' : Nat → Nat} (h : ∀ i, i < tb.length → ad' i = ad i) (hx : tb.all (fLow tb.length) = true) (M : fMem) : fW aC ad' tb M = fW aC ad tb M := by
  unfold fW
  apply List.ext_getElem?
  intro k
  rw [List.getElem?_mapIdx, List.getElem?_mapIdx]
  cases hk : tb[k]? with
  | none => rfl
  | some x =>
    show some (ad' k, fEnt aC ad' (M k) x) = some (ad k, fEnt aC ad (M k) x)
    rw [h k (List.getElem?_eq_some_iff.mp hk).1, fEnt_low h (List.all_eq_true.mp hx x (List.mem_of_getElem? hk))]
theorem fW_push (aC : Nat → ClassId) (ad : Nat → Nat) (tb : List fEn) (x : fEn) (M : fMem) : fW aC ad (tb ++ [x]) M = fW aC ad tb M ++ [(ad tb.length, fEnt aC ad (M tb.length) x)] := by
  unfold fW
  rw [List.mapIdx_append, List.mapIdx_cons, List.mapIdx_nil, Nat.zero_add]
/-- one cell more -/
theorem grow_core (hC : fCx p s m args c cl D aC tb ad A Ts cc own nL) (hok : tb.all (fLow tb.length) = true) {x : fEn} (hx : fLow 0 x = true) {q : Nat} {E : va_E} {H1 : Heap} (hE : fEnt aC ad (M tb.length) x = E) (hP1 : va_P D cl (fW aC ad tb M ++ [(q, E)]) H1) (hD1 : va_D A (fW aC ad tb M ++ [(q, E)])) :
    ∃ ad', (∀ i, i < tb.length → ad' i = ad i) ∧ ad' tb.length = q ∧ fCx p s m args c cl D aC (tb ++ [x]) ad' A Ts cc own nL ∧ va_P D cl (fW aC ad' (tb ++ [x]) M) H1 := by
  have hag : ∀ i, i < tb.length → (fun i => if i < tb.length then ad i else q) i = ad i := fun i hi => if_pos hi
  have hq : (fun i => if i < tb.length then ad i else q) tb.length = q := if_neg (Nat.lt_irrefl _)
  generalize (fun i => if i < tb.length then ad i else q) = ad' at hag hq
  have hW : fW aC ad' (tb ++ [x]) M = fW aC ad tb M ++ [(q, E)] := by
    rw [fW_push, fW_low hag hok, hq, ← hE]
    congr 3
    have h0 : fEnt aC ad' (M tb.length) x = fEnt aC ad (M tb.length) x := by
      have := fEnt_low (aC := aC) (ad := ad) (ad' := ad') (n := 0) (fun i hi => absurd hi (Nat.not_lt_zero _)) hx (M tb.length)
      exact this
    rw [h0]
  refine ⟨ad', hag, hq, ?_, by rw [hW]; exact hP1⟩
  obtain ⟨h1, h2, h3, h4, h5, h6, h7, h8, h9⟩ := hC
  have hlen : (fW aC ad tb M).length = tb.length := by unfold fW; rw [List.length_mapIdx]
  have hat : ∀ i, i < tb.length + 1 → ∃ z, (fW aC ad tb M ++ [(q, E)])[i]? = some (ad' i, z) := by
    intro i hi
    rw [← hW]
    have hlt : i < (tb ++ [x]).length := by simpa using hi
    exact ⟨_, fW_get (List.getElem?_eq_getElem hlt)⟩
  refine ⟨h1, h2, h3, h4, h5, h6, fun i j hi hj hij => ?_, fun i hi => ?_, h9⟩
  · rw [List.length_append] at hi hj
    obtain ⟨z1, e1⟩ := hat i hi
    obtain ⟨z2, e2⟩ := hat j hj
    exact hD1.1 i j _ _ e1 e2 hij
  · rw [List.length_append] at hi
    obtain ⟨z1, e1⟩ := hat i hi
    exact hD1.2 i _ e1
theorem fTY_int {cA : ClassId} (h : va_K D cl (fTY aC ++ [(cA, FieldType.int)]) s) : cA = aC 0 := by
  have h1 : s.vm.findClass ("[" ++ FieldType.int.toString) = some cA := (h.2 6 _ rfl).2
  have h2 : s.vm.findClass ("[" ++ FieldType.int.toString) = some (aC 0) := (h.2 0 _ rfl).2
  exact Option.some.inj (h1.symm.trans h2)
theorem fTY_bool {cA : ClassId} (h : va_K D cl (fTY aC ++ [(cA, FieldType.boolean)]) s) : cA = aC 1 := by
  have h1 : s.vm.findClass ("[" ++ FieldType.boolean.toString) = some cA := (h.2 6 _ rfl).2
  have h2 : s.vm.findClass ("[" ++ FieldType.boolean.toString) = some (aC 1) := (h.2 1 _ rfl).2
  exact Option.some.inj (h1.symm.trans h2)
theorem fTY_long {cA : ClassId} (h : va_K D cl (fTY aC ++ [(cA, FieldType.long)]) s) : cA = aC 2 := by
  have h1 : s.vm.findClass ("[" ++ FieldType.long.toString) = some cA := (h.2 6 _ rfl).2
  have h2 : s.vm.findClass ("[" ++ FieldType.long.toString) = some (aC 2) := (h.2 2 _ rfl).2
  exact Option.some.inj (h1.symm.trans h2)
theorem fI_nat {N : Nat} (h : N < 100000) : ¬ fI (N : Int) < 0 ∧ (fI (N : Int)).toNatClampNeg = N := by
  refine ⟨?_, ?_⟩
  · rw [← fI_0, fI_lt (by omega) in0]; omega
  · rw [fI_clamp (n := 100000) (by omega) (by omega), Int.toNat_natCast]
/-- an array of ints, of booleans, of longs -/
theorem n_newI (hC : fCx p s m args c cl D aC tb ad A Ts cc own nL) (hA : ∀ q, s.heap.size ≤ q → A q) (hok : tb.all (fLow tb.length) = true) (N : Nat) (hz : ∀ j, M tb.length j = 0) (lvF : (Nat → Nat) → List (Nat × Value)) (stF : (Nat → Nat) → List Value) (hlv : ∀ ad', (∀ i, i < tb.length → ad' i = ad i) → lvF ad' = lvF ad) (hst : ∀ ad', (∀ i, i < tb.length → ad' i = ad i) → stF ad' = stF ad) (harr : Cond.arrayClass .int ∈ Ts) (hN : N < 100000) (hcells : cells + 1 ≤ R.cells) (hslots : slots + N ≤ R.slots) (hd : decode cc pc = .ok (.newarray .int, 2)) (pc' : Nat) (hp : pc + 2 = pc')
    (k : ∀ ad', (∀ i, i < tb.length → ad' i = ad i) → fCx p s m args c cl D aC (tb ++ [(0, N, [])]) ad' A Ts cc own nL → GN p l e R s m args below meth c cl D aC (tb ++ [(0, N, [])]) ad' A nL (cells + 1) (slots + N) Q pc' (lvF ad') (.ref (ad' tb.length) :: stF ad') M) : GN p l e R s m args below meth c cl D aC tb ad A nL cells slots Q pc (lvF ad) (.int (fI (N : Int)) :: stF ad) M := by
  subst hp
  intro H locs ls hl hP hS
  obtain ⟨hn1, hn2⟩ := fI_nat hN
  refine va_newa (atype := .int) (ty := .int) (a0 := (N, .inl (fun _ => fI 0))) hC.1 hC.2.1 (hC.2.2.2.2.1 _ harr) rfl hC.2.2.2.2.2.1 hP (fW_D hC.2.2.2.2.2.2.1 hC.2.2.2.2.2.2.2.1) hS hA (fun cA => by rw [vp_cell_i]; rfl) hn1 hn2 (by show N * 4 ≤ 536870912; omega) hcells hslots hd (fun q cA H1 hK1 hP1 hD1 hS1 => ?_)
  have hcA := fTY_int hK1
  subst hcA
  obtain ⟨ad', g1, g2, g3, g4⟩ := grow_core (x := (0, N, [])) hC hok rfl (by show (Sum.inl (aC 0, N, .inl (fun j => fI (M tb.length j))) : va_E) = _; simp only [hz]) hP1 hD1
  have h := k ad' g1 g3 H1 locs ls (by rw [hlv ad' g1]; exact hl) g4 hS1
  rw [g2, hst ad' g1] at h
  exact h
theorem n_newZ (hC : fCx p s m args c cl D aC tb ad A Ts cc own nL) (hA : ∀ q, s.heap.size ≤ q → A q) (hok : tb.all (fLow tb.length) = true) (N : Nat) (hz : ∀ j, M tb.length j = 0) (lvF : (Nat → Nat) → List (Nat × Value)) (stF : (Nat → Nat) → List Value) (hlv : ∀ ad', (∀ i, i < tb.length → ad' i = ad i) → lvF ad' = lvF ad) (hst : ∀ ad', (∀ i, i < tb.length → ad' i = ad i) → stF ad' = stF ad) (harr : Cond.arrayClass .boolean ∈ Ts) (hN : N < 100000) (hcells : cells + 1 ≤ R.cells) (hslots : slots + N ≤ R.slots) (hd : decode cc pc = .ok (.newarray .boolean, 2)) (pc' : Nat) (hp : pc + 2 = pc')
    (k : ∀ ad', (∀ i, i < tb.length → ad' i = ad i) → fCx p s m args c cl D aC (tb ++ [(1, N, [])]) ad' A Ts cc own nL → GN p l e R s m args below meth c cl D aC (tb ++ [(1, N, [])]) ad' A nL (cells + 1) (slots + N) Q pc' (lvF ad') (.ref (ad' tb.length) :: stF ad') M) : GN p l e R s m args below meth c cl D aC tb ad A nL cells slots Q pc (lvF ad) (.int (fI (N : Int)) :: stF ad) M := by
  subst hp
  intro H locs ls hl hP hS
  obtain ⟨hn1, hn2⟩ := fI_nat hN
  refine va_newa (atype := .boolean) (ty := .boolean) (a0 := (N, .inl (fun _ => fI 0))) hC.1 hC.2.1 (hC.2.2.2.2.1 _ harr) rfl hC.2.2.2.2.2.1 hP (fW_D hC.2.2.2.2.2.2.1 hC.2.2.2.2.2.2.2.1) hS hA (fun cA => by rw [vp_cell_i]; rfl) hn1 hn2 (by show N * 1 ≤ 536870912; omega) hcells hslots hd (fun q cA H1 hK1 hP1 hD1 hS1 => ?_)
  have hcA := fTY_bool hK1
  subst hcA
  obtain ⟨ad', g1, g2, g3, g4⟩ := grow_core (x := (1, N, [])) hC hok rfl (by show (Sum.inl (aC 1, N, .inl (fun j => fI (M tb.length j))) : va_E) = _; simp only [hz]) hP1 hD1
  have h := k ad' g1 g3 H1 locs ls (by rw [hlv ad' g1]; exact hl) g4 hS1
  rw [g2, hst ad' g1] at h
  exact h
theorem n_newJ (hC : fCx p s m args c cl D aC tb ad A Ts cc own nL) (hA : ∀ q, s.heap.size ≤ q → A q) (hok : tb.all (fLow tb.length) = true) (N : Nat) (hz : ∀ j, M tb.length j = 0) (lvF : (Nat → Nat) → List (Nat × Value)) (stF : (Nat → Nat) → List Value) (hlv : ∀ ad', (∀ i, i < tb.length → ad' i = ad i) → lvF ad' = lvF ad) (hst : ∀ ad', (∀ i, i < tb.length → ad' i = ad i) → stF ad' = stF ad) (harr : Cond.arrayClass .long ∈ Ts) (hN : N < 100000) (hcells : cells + 1 ≤ R.cells) (hslots : slots + N ≤ R.slots) (hd : decode cc pc = .ok (.newarray .long, 2)) (pc' : Nat) (hp : pc + 2 = pc')
    (k : ∀ ad', (∀ i, i < tb.length → ad' i = ad i) → fCx p s m args c cl D aC (tb ++ [(2, N, [])]) ad' A Ts cc own nL → GN p l e R s m args below meth c cl D aC (tb ++ [(2, N, [])]) ad' A nL (cells + 1) (slots + N) Q pc' (lvF ad') (.ref (ad' tb.length) :: stF ad') M) : GN p l e R s m args below meth c cl D aC tb ad A nL cells slots Q pc (lvF ad) (.int (fI (N : Int)) :: stF ad) M := by
  subst hp
  intro H locs ls hl hP hS
  obtain ⟨hn1, hn2⟩ := fI_nat hN
  refine va_newa (atype := .long) (ty := .long) (a0 := (N, .inr (.inl (fun _ => fL 0)))) hC.1 hC.2.1 (hC.2.2.2.2.1 _ harr) rfl hC.2.2.2.2.2.1 hP (fW_D hC.2.2.2.2.2.2.1 hC.2.2.2.2.2.2.2.1) hS hA (fun cA => by rw [vp_cell_l]; rfl) hn1 hn2 (by show N * 8 ≤ 536870912; omega) hcells hslots hd (fun q cA H1 hK1 hP1 hD1 hS1 => ?_)
  have hcA := fTY_long hK1
  subst hcA
  obtain ⟨ad', g1, g2, g3, g4⟩ := grow_core (x := (2, N, [])) hC hok rfl (by show (Sum.inl (aC 2, N, .inr (.inl (fun j => fL (M tb.length j)))) : va_E) = _; simp only [hz]) hP1 hD1
  have h := k ad' g1 g3 H1 locs ls (by rw [hlv ad' g1]; exact hl) g4 hS1
  rw [g2, hst ad' g1] at h
  exact h
/-- an object -/
theorem n_new (hC : fCx p s m args c cl D aC tb ad A Ts cc own nL) (hA : ∀ q, s.heap.size ≤ q → A q) (hok : tb.all (fLow tb.length) = true) {C : String} {T : u_T} {N ci index : Nat} (qs : List (Nat × Nat)) (hx : fLow 0 (4, ci, qs) = true) (hz : ∀ j, M tb.length j = 0) (lvF : (Nat → Nat) → List (Nat × Value)) (stF : (Nat → Nat) → List Value) (hlv : ∀ ad', (∀ i, i < tb.length → ad' i = ad i) → lvF ad' = lvF ad) (hst : ∀ ad', (∀ i, i < tb.length → ad' i = ad i) → stF ad' = stF ad)
    (hin : ∀ w ∈ u_ws C T N, w ∈ Ts) (ty : Nat → FieldType) (hty : ∀ k, k < N → parseFieldDescriptor (T k).2.2.1 = some (ty k)) (hc : cl[ci]? = some (C, T, N)) (hcl : Cond.classLink own index C ∈ Ts) (hinst : Cond.instantiable C N ∈ Ts) (hini : Cond.initialized C ∈ Ts) (hfs : ∀ j, j < N → defaultValue (ty j) = vp_V (qs.mapIdx (fun _ q => fVal (fun _ => 0) 0 q)) j) (hcells : cells + 1 ≤ R.cells) (hslots : slots + N ≤ R.slots) (hd : decode cc pc = .ok (.new index, 3)) (pc' : Nat) (hp : pc + 3 = pc')
    (k : ∀ ad', (∀ i, i < tb.length → ad' i = ad i) → fCx p s m args c cl D aC (tb ++ [(4, ci, qs)]) ad' A Ts cc own nL → GN p l e R s m args below meth c cl D aC (tb ++ [(4, ci, qs)]) ad' A nL (cells + 1) (slots + N) Q pc' (lvF ad') (.ref (ad' tb.length) :: stF ad') M) : GN p l e R s m args below meth c cl D aC tb ad A nL cells slots Q pc (lvF ad) (stF ad) M := by
  subst hp
  intro H locs ls hl hP hS
  have e0 : fEnt aC ad (M tb.length) (4, ci, qs) = .inr (ci, qs.mapIdx (fun _ q => fVal (fun _ => 0) 0 q)) := by
    rw [fEnt_low (ad := fun _ => 0) (n := 0) (fun i hi => absurd hi (Nat.not_lt_zero _)) hx]
    show (Sum.inr (ci, qs.mapIdx (fun k q => fVal (fun _ => 0) (M tb.length k) q)) : va_E) = _
    simp only [hz]
  refine va_new hC.1 hC.2.1 hC.2.2.2.2.1 hin ty hty hC.2.2.2.1 (hC.2.2.2.2.1 _ hcl) (hC.2.2.2.2.1 _ hinst) (hC.2.2.2.2.1 _ hini) hC.2.2.2.2.2.1 hP (fW_D hC.2.2.2.2.2.2.1 hC.2.2.2.2.2.2.2.1) hS hA hc hfs hcells hslots hd (fun q H1 hP1 hD1 hS1 => ?_)
  obtain ⟨ad', g1, g2, g3, g4⟩ := grow_core (x := (4, ci, qs)) hC hok hx e0 hP1 hD1
  have h := k ad' g1 g3 H1 locs ls (by rw [hlv ad' g1]; exact hl) g4 hS1
  rw [g2, hst ad' g1] at h
  exact h
/-- an array of references, all null -/
theorem n_newq (hC : fCx p s m args c cl D aC tb ad A Ts cc own nL) (hA : ∀ q, s.heap.size ≤ q → A q) (hok : tb.all (fLow tb.length) = true) (N : Nat) {C : String} {index : Nat} (kC : Nat) (hkC : (fTY aC)[kC]? = some (aC kC, .object C)) (hover : va_AO C s) (lvF : (Nat → Nat) → List (Nat × Value)) (stF : (Nat → Nat) → List Value) (hlv : ∀ ad', (∀ i, i < tb.length → ad' i = ad i) → lvF ad' = lvF ad) (hst : ∀ ad', (∀ i, i < tb.length → ad' i = ad i) → stF ad' = stF ad)
    (hcl : Cond.classLink own index C ∈ Ts) (hN : N < 100000) (hcells : cells + 1 ≤ R.cells) (hslots : slots + N ≤ R.slots) (hd : decode cc pc = .ok (.anewarray index, 3)) (pc' : Nat) (hp : pc + 3 = pc')
    (k : ∀ ad', (∀ i, i < tb.length → ad' i = ad i) → fCx p s m args c cl D aC (tb ++ [(3, kC, List.replicate N (3, 0))]) ad' A Ts cc own nL → GN p l e R s m args below meth c cl D aC (tb ++ [(3, kC, List.replicate N (3, 0))]) ad' A nL (cells + 1) (slots + N) Q pc' (lvF ad') (.ref (ad' tb.length) :: stF ad') M) : GN p l e R s m args below meth c cl D aC tb ad A nL cells slots Q pc (lvF ad) (.int (fI (N : Int)) :: stF ad) M := by
  subst hp
  intro H locs ls hl hP hS
  obtain ⟨hn1, hn2⟩ := fI_nat hN
  refine va_newq hC.1 hC.2.1 hC.2.2.2.1 (hC.2.2.2.2.1 _ hcl) hover hC.2.2.2.2.2.1 hP (fW_D hC.2.2.2.2.2.2.1 hC.2.2.2.2.2.2.2.1) hS hA hn1 hn2 (by omega) hcells hslots hd (fun q cA H1 hK1 hP1 hD1 hS1 => ?_)
  have hcA : cA = aC kC := by
    obtain ⟨-, -, -, -, -, h1⟩ := (hK1.2 6 (cA, .object C) rfl).2
    have hlt : kC < (fTY aC).length := (List.getElem?_eq_some_iff.mp hkC).1
    obtain ⟨-, -, -, -, -, h2⟩ := (hK1.2 kC (aC kC, .object C) (by rw [List.getElem?_append_left hlt]; exact hkC)).2
    exact Option.some.inj (h1.symm.trans h2)
  subst hcA
  have hlow : fLow 0 (3, kC, List.replicate N (3, 0)) = true := by
    unfold fLow
    rw [List.all_eq_true]
    intro q hq
    rw [(List.mem_replicate.mp hq).2]
    rfl
  obtain ⟨ad', g1, g2, g3, g4⟩ := grow_core (x := (3, kC, List.replicate N (3, 0))) hC hok hlow (by
    show (Sum.inl (aC kC, (List.replicate N ((3, 0) : Nat × Nat)).length, .inr (.inr (.inr (.inr (fun j : Nat => fRf ad ((List.replicate N ((3, 0) : Nat × Nat))[j]?)))))) : va_E) = _
    rw [List.length_replicate]
    congr 7
    funext j
    rw [List.getElem?_replicate]
    split <;> rfl) hP1 hD1
  have h := k ad' g1 g3 H1 locs ls (by rw [hlv ad' g1]; exact hl) g4 hS1
  rw [g2, hst ad' g1] at h
  exact h
theorem n_putI (hC : fCx p s m args c cl D aC tb ad A Ts cc own nL) {ref C : String} {T : u_T} {N ci index q z : Nat} {fs : List (Nat × Nat)} {v : Int} (pc' : Nat) (ty0 : Nat → FieldType) (hty : ∀ k, k < N → parseFieldDescriptor (T k).2.2.1 = some (ty0 k)) (hnm : ∀ a, a < N → ∀ b, b < N → a ≠ b → (T a).2.1 ≠ (T b).2.1) (hin : ∀ w ∈ u_ws C T N, w ∈ Ts) (hc : cl[ci]? = some (C, T, N)) (kf : Nat) (hk : kf < N) (hw : Cond.fieldLink own index ref (T kf).2.1 (T kf).2.2.1 ∈ Ts) (hs : (T kf).1 = ref) (hfin : (T kf).2.2.2 = false) (hpt : parseFieldDescriptor (T kf).2.2.1 = some .int) (he : tb[q]? = some (4, ci, fs)) (hf : fs[kf]? = some (0, z)) (hd : decode cc pc = .ok (.putfield index, 3)) (hp : pc + 3 = pc')
    (k : GN p l e R s m args below meth c cl D aC tb ad A nL cells slots Q pc' lv st (fup M q kf v)) : GN p l e R s m args below meth c cl D aC tb ad A nL cells slots Q pc lv (.int (fI v) :: .ref (ad q) :: st) M := by
  subst hp
  intro H locs ls hl hP hS
  have hlt : kf < fs.length := (List.getElem?_eq_some_iff.mp hf).1
  refine va_put hC.1 hC.2.1 hC.2.2.2.2.1 hin ty0 hty hnm hC.2.2.2.1 hC.2.2.2.2.2.1 hP (fW_D hC.2.2.2.2.2.2.1 hC.2.2.2.2.2.2.2.1) hS q (fW_get he) hc kf hk (hC.2.2.2.2.1 _ hw) (fun x h => by rw [← hs]; exact h) hfin hpt rfl rfl (by simpa using hlt) hd (fun H1 locs1 hP1 _ hS1 => ?_)
  rw [fW_set (M' := fup M q kf v) he ?_ (fun x hx => fup_off _ _ _ _ _ hx)] at hP1
  · exact k H1 locs1 ls hl hP1 hS1
  · exact (fEnt_put hf rfl).symm
theorem n_putJ (hC : fCx p s m args c cl D aC tb ad A Ts cc own nL) {ref C : String} {T : u_T} {N ci index q z : Nat} {fs : List (Nat × Nat)} {v : Int} (pc' : Nat) (ty0 : Nat → FieldType) (hty : ∀ k, k < N → parseFieldDescriptor (T k).2.2.1 = some (ty0 k)) (hnm : ∀ a, a < N → ∀ b, b < N → a ≠ b → (T a).2.1 ≠ (T b).2.1) (hin : ∀ w ∈ u_ws C T N, w ∈ Ts) (hc : cl[ci]? = some (C, T, N)) (kf : Nat) (hk : kf < N) (hw : Cond.fieldLink own index ref (T kf).2.1 (T kf).2.2.1 ∈ Ts) (hs : (T kf).1 = ref) (hfin : (T kf).2.2.2 = false) (hpt : parseFieldDescriptor (T kf).2.2.1 = some .long) (he : tb[q]? = some (4, ci, fs)) (hf : fs[kf]? = some (1, z)) (hd : decode cc pc = .ok (.putfield index, 3)) (hp : pc + 3 = pc')
    (k : GN p l e R s m args below meth c cl D aC tb ad A nL cells slots Q pc' lv st (fup M q kf v)) : GN p l e R s m args below meth c cl D aC tb ad A nL cells slots Q pc lv (.long (fL v) :: .ref (ad q) :: st) M := by
  subst hp
  intro H locs ls hl hP hS
  have hlt : kf < fs.length := (List.getElem?_eq_some_iff.mp hf).1
  refine va_put hC.1 hC.2.1 hC.2.2.2.2.1 hin ty0 hty hnm hC.2.2.2.1 hC.2.2.2.2.2.1 hP (fW_D hC.2.2.2.2.2.2.1 hC.2.2.2.2.2.2.2.1) hS q (fW_get he) hc kf hk (hC.2.2.2.2.1 _ hw) (fun x h => by rw [← hs]; exact h) hfin hpt rfl rfl (by simpa using hlt) hd (fun H1 locs1 hP1 _ hS1 => ?_)
  rw [fW_set (M' := fup M q kf v) he ?_ (fun x hx => fup_off _ _ _ _ _ hx)] at hP1
  · exact k H1 locs1 ls hl hP1 hS1
  · exact (fEnt_put hf rfl).symm
theorem n_putZ (hC : fCx p s m args c cl D aC tb ad A Ts cc own nL) {ref C : String} {T : u_T} {N ci index q z : Nat} {fs : List (Nat × Nat)} {v : Int} (h : v = 0 ∨ v = 1) (pc' : Nat) (ty0 : Nat → FieldType) (hty : ∀ k, k < N → parseFieldDescriptor (T k).2.2.1 = some (ty0 k)) (hnm : ∀ a, a < N → ∀ b, b < N → a ≠ b → (T a).2.1 ≠ (T b).2.1) (hin : ∀ w ∈ u_ws C T N, w ∈ Ts) (hc : cl[ci]? = some (C, T, N)) (kf : Nat) (hk : kf < N) (hw : Cond.fieldLink own index ref (T kf).2.1 (T kf).2.2.1 ∈ Ts) (hs : (T kf).1 = ref) (hfin : (T kf).2.2.2 = false) (hpt : parseFieldDescriptor (T kf).2.2.1 = some .boolean) (he : tb[q]? = some (4, ci, fs)) (hf : fs[kf]? = some (0, z)) (hd : decode cc pc = .ok (.putfield index, 3)) (hp : pc + 3 = pc')
    (k : GN p l e R s m args below meth c cl D aC tb ad A nL cells slots Q pc' lv st (fup M q kf v)) : GN p l e R s m args below meth c cl D aC tb ad A nL cells slots Q pc lv (.int (fI v) :: .ref (ad q) :: st) M := by
  subst hp
  intro H locs ls hl hP hS
  have hlt : kf < fs.length := (List.getElem?_eq_some_iff.mp hf).1
  refine va_put hC.1 hC.2.1 hC.2.2.2.2.1 hin ty0 hty hnm hC.2.2.2.1 hC.2.2.2.2.2.1 hP (fW_D hC.2.2.2.2.2.2.1 hC.2.2.2.2.2.2.2.1) hS q (fW_get he) hc kf hk (hC.2.2.2.2.1 _ hw) (fun x h => by rw [← hs]; exact h) hfin hpt (fI_bool h) (fI_boolF h) (by simpa using hlt) hd (fun H1 locs1 hP1 _ hS1 => ?_)
  rw [fW_set (M' := fup M q kf v) he ?_ (fun x hx => fup_off _ _ _ _ _ hx)] at hP1
  · exact k H1 locs1 ls hl hP1 hS1
  · exact (fEnt_put hf rfl).symm
theorem n_iast (hC : fCx p s m args c cl D aC tb ad A Ts cc own nL) {q n : Nat} {xs : List (Nat × Nat)} {i v : Int} (h : 0 ≤ i ∧ i < (n : Int)) (pc' : Nat) (he : tb[q]? = some (0, n, xs)) (hn : n ≤ 2147483648) (hd : decode cc pc = .ok (.iastore, 1)) (hp : pc + 1 = pc')
    (k : GN p l e R s m args below meth c cl D aC tb ad A nL cells slots Q pc' lv st (fup M q i.toNat v)) : GN p l e R s m args below meth c cl D aC tb ad A nL cells slots Q pc lv (.int (fI v) :: .int (fI i) :: .ref (ad q) :: st) M := by
  subst hp
  intro H locs ls hl hP hS
  refine va_iast hC.1 hC.2.1 hC.2.2.2.2.2.1 hP (fW_D hC.2.2.2.2.2.2.1 hC.2.2.2.2.2.2.2.1) hS q 0 (fW_get he) rfl (fI_in h hn) hd (fun H1 locs1 hP1 _ hS1 => ?_)
  rw [fI_clamp h hn, fW_set (M' := fup M q i.toNat v) he ?_ (fun x hx => fup_off _ _ _ _ _ hx)] at hP1
  · exact k H1 locs1 ls hl hP1 hS1
  · rw [fup_row]
    unfold fEnt
    dsimp only
    congr 4
    funext j
    unfold upd
    split <;> rfl
theorem fW_setE (aC : Nat → ClassId) (ad : Nat → Nat) (tb : List fEn) (M : fMem) (q : Nat) (x : fEn) : (fW aC ad tb M).set q (ad q, fEnt aC ad (M q) x) = fW aC ad (tb.set q x) M := by
  unfold fW
  apply List.ext_getElem?
  intro k
  rw [List.getElem?_set, List.getElem?_mapIdx, List.getElem?_mapIdx, List.getElem?_set, List.length_mapIdx]
  by_cases h : q = k
  · subst h
    rw [if_pos rfl, if_pos rfl]
    split <;> rfl
  · rw [if_neg h, if_neg h]
theorem fCx.set (hC : fCx p s m args c cl D aC tb ad A Ts cc own nL) {tb' : List fEn} (h : tb'.length = tb.length) : fCx p s m args c cl D aC tb' ad A Ts cc own nL := by
  obtain ⟨h1, h2, h3, h4, h5, h6, h7, h8, h9⟩ := hC
  exact ⟨h1, h2, h3, h4, h5, h6, by rw [h]; exact h7, by rw [h]; exact h8, h9⟩
theorem fEnt_ref {q ci kf y : Nat} {fs : List (Nat × Nat)} : fEnt aC ad (M q) (4, ci, fs.set kf (2, y)) = .inr (ci, (fs.mapIdx (fun k q' => fVal ad (M q k) q')).set kf (.ref (ad y))) := by
  show (Sum.inr (ci, (fs.set kf (2, y)).mapIdx (fun k q' => fVal ad (M q k) q')) : va_E) = _
  congr 2
  apply List.ext_getElem?
  intro j
  rw [List.getElem?_mapIdx, List.getElem?_set, List.getElem?_set, List.getElem?_mapIdx, List.length_mapIdx]
  by_cases h : kf = j
  · subst h
    rw [if_pos rfl, if_pos rfl]
    split <;> rfl
  · rw [if_neg h, if_neg h]
/-- a reference into a final field, in a constructor -/
theorem n_putR (hC : fCx p s m args c cl D aC tb ad A Ts cc own nL) {ref C : String} {T : u_T} {N ci index q y : Nat} {fs : List (Nat × Nat)} {ty : FieldType} (pc' : Nat) (tb' : List fEn) (ty0 : Nat → FieldType) (hty : ∀ k, k < N → parseFieldDescriptor (T k).2.2.1 = some (ty0 k)) (hnm : ∀ a, a < N → ∀ b, b < N → a ≠ b → (T a).2.1 ≠ (T b).2.1) (hin : ∀ w ∈ u_ws C T N, w ∈ Ts) (hc : cl[ci]? = some (C, T, N)) (kf : Nat) (hk : kf < N) (hw : Cond.fieldLink own index ref (T kf).2.1 (T kf).2.2.1 ∈ Ts) (hs : (T kf).1 = ref) (hfin : (T kf).2.2.2 = true) (hini : meth.name = "<init>") (hdecl : (T kf).1 = own) (hpt : parseFieldDescriptor (T kf).2.2.1 = some ty) (hnr : ∀ a : Nat, narrow ty (.ref a) = .ref a) (hft : ∀ a : Nat, fits ty (.ref a) = true) (he : tb[q]? = some (4, ci, fs)) (hlt : kf < fs.length) (htb : tb.set q (4, ci, fs.set kf (2, y)) = tb') (hd : decode cc pc = .ok (.putfield index, 3)) (hp : pc + 3 = pc')
    (k : fCx p s m args c cl D aC tb' ad A Ts cc own nL → GN p l e R s m args below meth c cl D aC tb' ad A nL cells slots Q pc' lv st M) : GN p l e R s m args below meth c cl D aC tb ad A nL cells slots Q pc lv (.ref (ad y) :: .ref (ad q) :: st) M := by
  subst hp
  subst htb
  intro H locs ls hl hP hS
  refine va_putF hC.1 hC.2.1 hC.2.2.2.2.1 hin ty0 hty hnm hC.2.2.2.1 hC.2.2.2.2.2.1 hP (fW_D hC.2.2.2.2.2.2.1 hC.2.2.2.2.2.2.2.1) hS q (fW_get he) hc kf hk (hC.2.2.2.2.1 _ hw) (fun x h => by rw [← hs]; exact h) hfin hini hdecl hpt (hnr _) (hft _) (by simpa using hlt) hd (fun H1 locs1 hP1 _ hS1 => ?_)
  rw [← fEnt_ref, fW_setE] at hP1
  exact k (hC.set (List.length_set ..)) H1 locs1 ls hl hP1 hS1
theorem n_putR' (hC : fCx p s m args c cl D aC tb ad A Ts cc own nL) {ref C : String} {T : u_T} {N ci index q y : Nat} {fs : List (Nat × Nat)} {ty : FieldType} (pc' : Nat) (tb' : List fEn) (ty0 : Nat → FieldType) (hty : ∀ k, k < N → parseFieldDescriptor (T k).2.2.1 = some (ty0 k)) (hnm : ∀ a, a < N → ∀ b, b < N → a ≠ b → (T a).2.1 ≠ (T b).2.1) (hin : ∀ w ∈ u_ws C T N, w ∈ Ts) (hc : cl[ci]? = some (C, T, N)) (kf : Nat) (hk : kf < N) (hw : Cond.fieldLink own index ref (T kf).2.1 (T kf).2.2.1 ∈ Ts) (hs : (T kf).1 = ref) (hfin : (T kf).2.2.2 = false) (hpt : parseFieldDescriptor (T kf).2.2.1 = some ty) (hnr : ∀ a : Nat, narrow ty (.ref a) = .ref a) (hft : ∀ a : Nat, fits ty (.ref a) = true) (he : tb[q]? = some (4, ci, fs)) (hlt : kf < fs.length) (htb : tb.set q (4, ci, fs.set kf (2, y)) = tb') (hd : decode cc pc = .ok (.putfield index, 3)) (hp : pc + 3 = pc')
    (k : fCx p s m args c cl D aC tb' ad A Ts cc own nL → GN p l e R s m args below meth c cl D aC tb' ad A nL cells slots Q pc' lv st M) : GN p l e R s m args below meth c cl D aC tb ad A nL cells slots Q pc lv (.ref (ad y) :: .ref (ad q) :: st) M := by
  subst hp
  subst htb
  intro H locs ls hl hP hS
  refine va_put hC.1 hC.2.1 hC.2.2.2.2.1 hin ty0 hty hnm hC.2.2.2.1 hC.2.2.2.2.2.1 hP (fW_D hC.2.2.2.2.2.2.1 hC.2.2.2.2.2.2.2.1) hS q (fW_get he) hc kf hk (hC.2.2.2.2.1 _ hw) (fun x h => by rw [← hs]; exact h) hfin hpt (hnr _) (hft _) (by simpa using hlt) hd (fun H1 locs1 hP1 _ hS1 => ?_)
  rw [← fEnt_ref, fW_setE] at hP1
  exact k (hC.set (List.length_set ..)) H1 locs1 ls hl hP1 hS1
/-- a reference into an array -/
theorem n_astq (hC : fCx p s m args c cl D aC tb ad A Ts cc own nL) {q kC y ci i : Nat} {qs fs : List (Nat × Nat)} {r : vw_C} (pc' : Nat) (tb' : List fEn) (he : tb[q]? = some (3, kC, qs)) (hkC : (fTY aC)[kC]? = some (aC kC, .object r.1)) (hy : tb[y]? = some (4, ci, fs)) (hc : cl[ci]? = some r) (hi : i < qs.length) (hl100 : qs.length < 100000) (htb : tb.set q (3, kC, qs.set i (2, y)) = tb') (hd : decode cc pc = .ok (.aastore, 1)) (hp : pc + 1 = pc')
    (k : fCx p s m args c cl D aC tb' ad A Ts cc own nL → GN p l e R s m args below meth c cl D aC tb' ad A nL cells slots Q pc' lv st M) : GN p l e R s m args below meth c cl D aC tb ad A nL cells slots Q pc lv (.ref (ad y) :: .int (fI (i : Int)) :: .ref (ad q) :: st) M := by
  subst hp
  subst htb
  intro H locs ls hl hP hS
  have hin : (0 : Int) ≤ (i : Int) ∧ (i : Int) < (qs.length : Int) := by omega
  refine va_astq hC.1 hC.2.1 hC.2.2.2.2.2.1 hP (fW_D hC.2.2.2.2.2.2.1 hC.2.2.2.2.2.2.2.1) hS q kC y ci (fW_get he) hkC (fW_get hy) hc (fI_in hin (by omega)) hd (fun H1 locs1 hP1 _ hS1 => ?_)
  have e1 : fEnt aC ad (M q) (3, kC, qs.set i (2, y)) = .inl (aC kC, qs.length, .inr (.inr (.inr (.inr (va_up (fun j => fRf ad (qs[j]?)) (fI (i : Int)).toNatClampNeg (some (ad y))))))) := by
    show (Sum.inl (aC kC, (qs.set i (2, y)).length, .inr (.inr (.inr (.inr (fun j : Nat => fRf ad ((qs.set i (2, y))[j]?)))))) : va_E) = _
    rw [List.length_set, fI_clamp hin (by omega), Int.toNat_natCast]
    congr 7
    funext j
    unfold va_up
    rw [List.getElem?_set]
    by_cases h : i = j
    · subst h
      rw [if_pos rfl, if_pos rfl, if_pos hi]
      rfl
    · rw [if_neg h, if_neg (fun z => h z.symm)]
  rw [← e1, fW_setE] at hP1
  exact k (hC.set (List.length_set ..)) H1 locs1 ls hl hP1 hS1
/-- the constructor of Object -/
theorem n_obj (hC : fCx p s m args c cl D aC tb ad A Ts cc own nL) {idx a : Nat} (pc' : Nat) (hlink : Cond.methodLink own idx Lib.objectInit ∈ Ts) (hinst : Cond.instanceMethod Lib.objectInit ∈ Ts) (hcode : Cond.code Lib.objectInit ⟨#[0xb1]⟩ 1 none ∈ Ts) (hd : decode cc pc = .ok (.invokespecial idx, 3)) (hp : pc + 3 = pc') (hR : 1 ≤ R.frames ∧ 12 ≤ R.locals)
    (k : GN p l e R s m args below meth c cl D aC tb ad A nL cells slots Q pc' lv [] M) : GN p l e R s m args below meth c cl D aC tb ad A nL cells slots Q pc lv [.ref a] M := by
  subst hp
  intro H locs ls hl hP hS
  exact W.objInit hC.1 hC.2.1 hC.2.2.2.1 (hC.2.2.2.2.1 _ hlink) (hC.2.2.2.2.1 _ hinst) (hC.2.2.2.2.1 _ hcode) rfl (hl.1.trans hC.2.2.1.symm) rfl hd hR.1 hR.2 (k H locs ls hl hP hS)
/-- a call within the same table, its answer known -/
theorem n_run (hC : fCx p s m args c cl D aC tb ad A goodTs cc own nL) {rk : Nat} {a : Array Value} {r' : Int × fMem} {stk : List Value} (pc' : Nat) (hp : pc + 3 = pc')
    (hr : ∀ (H : Heap) (locs : List Loc) (ls : Array Slot), lv_has ls nL lv → va_P D cl (fW aC ad tb M) H → va_S A s.heap H locs → va_Run p l e R s m args below meth c H locs cells slots 0 0 (F0 m pc ls stk) st (fQ cl D aC ad tb rk r' a) (fFr ad tb))
    {st' : List Value} (hst : (fRv rk ad r'.1).toList ++ st = st')
    (k : GN p l e R s m args below meth c cl D aC tb ad A nL cells slots Q pc' lv st' r'.2) : GN p l e R s m args below meth c cl D aC tb ad A nL cells slots Q pc lv stk M := by
  subst hp
  intro H locs ls hl hP hS
  have hrun := hr H locs ls hl hP hS
  intro T hT X
  obtain ⟨v', st₀, t, T', L, h0, X', hL, e1, e2, ⟨hv, hP1, hz, hk⟩, stp⟩ := hrun T hT X
  have hv' : v' = fRv rk ad r'.1 := by injection hv
  subst hv'
  rw [h0] at hz hk
  have hfr : ∀ q, fFr ad tb q → A q := by
    rintro q ⟨i, hi, rfl⟩
    exact hC.2.2.2.2.2.2.2.1 i hi
  have hS1 : va_S A s.heap T'.heap (locs ++ L) := ⟨Nat.le_trans hS.1 (by rw [e1]; exact hz), fun q h1 h2 => by rw [e1, hk q (Nat.lt_of_lt_of_le h1 hS.1) (fun z => h2 (hfr q z))]; exact hS.2.1 q h1 h2, fun q hq => by
    rcases List.mem_append.mp hq with h | h
    · exact hS.2.2 q h
    · exact hfr _ (hL q h)⟩
  obtain ⟨t2, a1, b1⟩ := k T'.heap (locs ++ L) ls hl (by rw [e1]; exact hP1) hS1 T' rfl X'
  rw [← hst] at a1
  exact ⟨t2, stp t2 a1, b1⟩
theorem n_fill (hC : fCx p s m args c cl D aC tb ad A goodTs cc own nL) {q n index : Nat} {v : Int} {xs : List (Nat × Nat)} (pc' : Nat) (he : tb[q]? = some (0, n, xs)) (hn : n ≤ 2147483647) (hw : Cond.methodLink own index yJ7_fill ∈ goodTs) (hcode : Cond.code yJ7_fill cJ7_fill 4 none ∈ goodTs) (hini : Cond.initialized yJ7_fill.cls ∈ goodTs) (hsta : Cond.static yJ7_fill ∈ goodTs) (hR : 0 + 1 ≤ R.frames ∧ 8 + (4 + 11) + 0 ≤ R.locals) (hcs : cells ≤ R.cells ∧ slots ≤ R.slots) (hd : decode cc pc = .ok (.invokestatic index, 3)) (hp : pc + 3 = pc')
    (k : GN p l e R s m args below meth c cl D aC tb ad A nL cells slots Q pc' lv [] (fun p j => if p = q ∧ j < n then v else M p j)) : GN p l e R s m args below meth c cl D aC tb ad A nL cells slots Q pc lv [.int (fI v), .ref (ad q)] M := by
  have hf : fFil M q n v = some (0, fun p j => if p = q ∧ j < n then v else M p j) := rfl
  refine n_run (rk := 2) (a := ([Value.ref (ad q), .int (fI v)] : List Value).toArray) (r' := (0, fun p j => if p = q ∧ j < n then v else M p j)) (st := []) hC pc' hp (fun H locs ls hl hP hS => ?_) rfl k
  exact va_runS (Ts := goodTs) (As := [Value.ref (ad q), .int (fI v)]) ⟨hC.1, hC.2.1, hC.2.2.1, hC.2.2.2.1, hC.2.2.2.2.1⟩ (cn_fillG l cl tb q n xs he hn v M D aC ad _ hf) ⟨callB_of 2 hC.2.2.2.2.1 (goodTs_in hcode rfl) rfl rfl rfl (hC.2.2.2.2.1 _ hini) (hC.2.2.2.2.1 _ hw) (by decide +kernel) hR, hC.2.2.2.2.1 _ hsta⟩ ⟨fOk.blind, fun U hU hW => ⟨rfl, by rw [hU]; exact hP, va_K.moved hW.alike hC.2.2.2.2.2.1, hC.2.2.2.2.2.2.1, fNw.warm hW hC.2.2.2.2.2.2.2.2⟩⟩ rfl rfl hl.1 rfl (lv_room (by decide)) hd hcs
end GNs
/-! contracts of constructors: from one new object to its own little table -/
def fAO (U : State) : Prop := va_AO "RevisionStore$History" U ∧ va_AO "RevisionStore$Copy" U ∧ (Cond.arrayOver (.array .int)).before #[] U = true
theorem fAO.moved {u U : State} (hvm : u.vm.Alike U.vm) (h : fAO u) : fAO U := ⟨h.1.moved hvm, h.2.1.moved hvm, arrayOver_alikeB hvm h.2.2⟩
def fNA (ad : Nat → Nat) (sz : Nat) : Nat → Prop := fun q => q = ad 0 ∨ sz ≤ q
def fNok (cl : List vw_C) (D : va_G) (aC : Nat → ClassId) (ad : Nat → Nat) (x : fEn) (sz : Nat) (U : State) : Prop := fOk cl D aC ad [x] (fun _ _ => 0) U ∧ fAO U ∧ U.heap.size = sz
def fNq (cl : List vw_C) (D : va_G) (aC : Nat → ClassId) (ad : Nat → Nat) (sz : Nat) (tb' : List fEn) (M' : fMem) : Array Value → State → Outcome → State → Prop := fun _ st oc t => oc = .returned none ∧ (∃ ad', ad' 0 = ad 0 ∧ fInj ad' tb'.length ∧ (∀ i, 1 ≤ i → i < tb'.length → sz ≤ ad' i) ∧ va_P D cl (fW aC ad' tb' M') t.heap) ∧ va_F (fNA ad sz) st t
def fNr (fr lo mc ms : Nat) : Room := { frames := fr, cells := mc, slots := ms, locals := lo }
def fNt (l : Launch) (cl : List vw_C) (x : fEn) (tb' : List fEn) (y : MethodName) (cc : ByteArray) (mL fr lo mc ms : Nat) (M' : fMem) : Prop :=
  ∀ (D : va_G) (aC : Nat → ClassId) (ad : Nat → Nat) (sz : Nat), Met l y (.code y cc mL none :: goodTs) (fNr fr lo mc ms) (va_Pc [.ref (ad 0)] (fNok cl D aC ad x sz)) (fNq cl D aC ad sz tb' M') mc ms (fNA ad sz)
theorem fNok.blind {av : List Value} {cl : List vw_C} {D : va_G} {aC : Nat → ClassId} {ad : Nat → Nat} {x : fEn} {sz : Nat} : FrameBlind (va_Pc av (fNok cl D aC ad x sz)) := by
  intro a U g mk h
  obtain ⟨e1, ⟨hP, hK, hi, hn⟩, hao, hz⟩ := h
  exact ⟨e1, ⟨hP, va_K.moved (u := U) (U := U.calling g mk a) (Vm.Alike.refl U.vm) hK, hi, fNw.same (u := U) (U := U.calling g mk a) rfl hn⟩, fAO.moved (u := U) (U := U.calling g mk a) (Vm.Alike.refl U.vm) hao, hz⟩
theorem fNt.of {l : Launch} {cl : List vw_C} {x : fEn} {tb' : List fEn} {y : MethodName} {cc : ByteArray} {mL fr lo mc ms : Nat} {M' : fMem} (hy : plainName y.cls = true) (hyn : y.name = "<init>") (hmL : 1 ≤ mL)
    (body : ∀ (p : Program) (e : Env) (s : State) (m : MethodId) (args : Array Value) (below : List Frame) (meth : Method) (c : Code) (D : va_G) (aC : Nat → ClassId) (ad : Nat → Nat), fCx p s m args c cl D aC [x] ad (fNA ad s.heap.size) goodTs cc y.cls mL → meth.sig.returnType = none → meth.locks = false → meth.name = "<init>" → fAO s →
      GN p l e (fNr fr lo mc ms) s m args below meth c cl D aC [x] ad (fNA ad s.heap.size) mL 0 0 (MQ below (fNq cl D aC ad s.heap.size tb' M') args s mc ms (fNA ad s.heap.size)) 0 [(0, .ref (ad 0))] [] (fun _ _ => 0)) : fNt l cl x tb' y cc mL fr lo mc ms M' := by
  intro D aC ad sz
  refine Met.ofW (cc := cc) (maxL := mL) (ret := none) hy rfl ?_
  intro p e s m args below meth c s₁ B hml hv
  obtain ⟨rfl, ⟨hP, hK, hi, hn⟩, hao, rfl⟩ := hv
  have hts : ∀ w ∈ goodTs, w.before _ s = true := fun w hw => atoms_spec (ws := .code y cc mL none :: goodTs) B.pre w (List.mem_cons_of_mem _ hw)
  have hin : meth.name = "<init>" := (name_of_methodNamed B.named B.method).1.trans hyn
  rw [lg_entry_eq]
  exact body p e s m _ below meth c D aC ad ⟨B.exec, B.bytes, hml, findClass_of_methodNamed B.named, hts, hK, hi, fun i h => Or.inl (by
    have h0 : i = 0 := Nat.lt_one_iff.mp h
    rw [h0]), hn⟩ B.returns B.notSynchronized hin hao s.heap [] _ (lv_entry [.ref (ad 0)] hmL) hP va_S.rf
section GNr
variable {p : Program} {l : Launch} {e : Env} {R : Room} {s : State} {m : MethodId} {args : Array Value} {below : List Frame} {meth : Method} {c : Code} {cl : List vw_C} {D : va_G} {aC : Nat → ClassId} {tb : List fEn} {ad ad0 : Nat → Nat} {nL cells slots : Nat} {Q : State → Prop}
variable {Ts : List Cond} {cc : ByteArray} {own : String} {pc : Nat} {lv : List (Nat × Value)} {st : List Value} {M : fMem}
/-- a constructor's end -/
theorem n_ret (hC : fCx p s m args c cl D aC tb ad (fNA ad0 s.heap.size) Ts cc own nL) (hr : meth.sig.returnType = none) (hk : meth.locks = false) (h0 : ad 0 = ad0 0) (hpos : 0 < tb.length) {M' : fMem} (hM : M = M') (hd : decode cc pc = .ok (.return_, 1)) : GN p l e R s m args below meth c cl D aC tb ad (fNA ad0 s.heap.size) nL cells slots (MQ below (fNq cl D aC ad0 s.heap.size tb M') args s cells slots (fNA ad0 s.heap.size)) pc lv [] M := by
  subst hM
  intro H locs ls hl hP hS
  refine W.vret hC.1 hC.2.1 hr (fun t ht hW => ⟨rfl, ⟨ad, h0, hC.2.2.2.2.2.2.1, fun i h1 h2 => ?_, by rw [ht]; exact hP⟩, hS.F ht⟩) hS.2.2 hd hk
  rcases hC.2.2.2.2.2.2.2.1 i h2 with q | q
  · have := hC.2.2.2.2.2.2.1 i 0 h2 hpos (q.trans h0.symm)
    omega
  · exact q
end GNr
