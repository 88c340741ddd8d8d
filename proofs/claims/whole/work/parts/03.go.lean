/-! The judgement of a walk over a flat world, and its rows. -/
/-! the words that go along with a call, and those of nest mates, which go beside -/
def goodTs : List Cond := lw_tbl.filter goodWord
theorem goodTs_mem {w : Cond} (h : w ∈ lw_tbl) (hg : goodWord w = true) : w ∈ goodTs := List.mem_filter.mpr ⟨h, hg⟩
theorem goodTs_in {w0 : Cond} {ws : List Cond} (h0 : w0 ∈ goodTs) (hw : ws = w0 :: goodTs) : GoodIn goodTs ws := by
  subst hw
  intro w h
  rcases List.mem_cons.mp h with rfl | h
  · exact ⟨h0, good_of_word (List.mem_filter.mp h0).2⟩
  · exact ⟨h, good_of_word (List.mem_filter.mp h).2⟩
def nestW : Cond → Bool
  | .fieldLinkNest _ _ _ _ _ _ => true
  | .methodLinkNest _ _ _ _ => true
  | _ => false
theorem nestW_tab {w : Cond} (h : nestW w = true) : w.onTables = true := by
  cases w <;> first | rfl | cases h
def fNw (U : State) : Prop := ∀ w ∈ lw_tbl, nestW w = true → va_Nw w U
theorem fNw.warm {s U : State} (hW : s.WarmedH U.vm) (h : fNw s) : fNw U := by
  intro w hw hn
  have h1 := h w hw hn
  cases w <;> first | exact va_Nw.warmF hW h1 | exact va_Nw.warmM hW h1 | cases hn
theorem fNw.same {u U : State} (h : u.vm = U.vm) (hn : fNw u) : fNw U := fun w hw hz => va_Nw.same (nestW_tab hz) h (hn w hw hz)
def fTY (aC : Nat → ClassId) : List (ClassId × FieldType) := [(aC 0, .int), (aC 1, .boolean), (aC 2, .long), (aC 3, .object "RevisionStore$History"), (aC 4, .object "RevisionStore$Copy"), (aC 5, .array .int)]
abbrev fOp : Type := Option (Int × fMem)
/-- what a walk stands on -/
def fCx (p : Program) (s : State) (m : MethodId) (args : Array Value) (c : Code) (cl : List vw_C) (D : va_G) (aC : Nat → ClassId) (tb : List fEn) (ad : Nat → Nat) (A : Nat → Prop) (Ts : List Cond) (cc : ByteArray) (own : String) (nL : Nat) : Prop :=
  p.tables.exec = Jvm.exec ∧ c.code = cc ∧ c.maxLocals = nL ∧ s.vm.findClass own = some m.cls ∧ (∀ w ∈ Ts, w.before args s = true) ∧ va_K D cl (fTY aC) s ∧ fInj ad tb.length ∧ (∀ i, i < tb.length → A (ad i)) ∧ fNw s
def GO (p : Program) (l : Launch) (e : Env) (R : Room) (s : State) (m : MethodId) (args : Array Value) (below : List Frame) (meth : Method) (c : Code) (cl : List vw_C) (D : va_G) (aC : Nat → ClassId) (tb : List fEn) (ad : Nat → Nat) (A : Nat → Prop) (nL cells slots : Nat) (Qf : Int × fMem → State → Prop) (pc : Nat) (lv : List (Nat × Value)) (st : List Value) (M : fMem) (d : fOp) : Prop :=
  ∀ r, d = some r → ∀ (H : Heap) (locs : List Loc) (ls : Array Slot), lv_has ls nL lv → va_P D cl (fW aC ad tb M) H → va_S A s.heap H locs → W p l e R s m args below meth c H locs cells slots (Qf r) (F0 m pc ls st)
/-! what the walk computes: in the order of the instructions, 'none' where an instruction would leave the plain road -/
section FD
variable {α : Type}
def fEq (a b : Int) (x y : Option α) : Option α := if InI a ∧ InI b then (if a = b then x else y) else none
def fLt (a b : Int) (x y : Option α) : Option α := if InI a ∧ InI b then (if a < b then x else y) else none
def fLe (a b : Int) (x y : Option α) : Option α := if InI a ∧ InI b then (if a ≤ b then x else y) else none
def fEqL (a b : Int) (x y : Option α) : Option α := if InL a ∧ InL b then (if a = b then x else y) else none
def fLtL (a b : Int) (x y : Option α) : Option α := if InL a ∧ InL b then (if a < b then x else y) else none
def fLeL (a b : Int) (x y : Option α) : Option α := if InL a ∧ InL b then (if a ≤ b then x else y) else none
def fDvI (a b : Int) (k : Int → Option α) : Option α := if (0 ≤ a ∧ InI a) ∧ (0 < b ∧ InI b) then k (a / b) else none
def fRmI (a b : Int) (k : Int → Option α) : Option α := if (0 ≤ a ∧ InI a) ∧ (0 < b ∧ InI b) then k (a % b) else none
def fDvL (a b : Int) (k : Int → Option α) : Option α := if (0 ≤ a ∧ InL a) ∧ (0 < b ∧ InL b) then k (a / b) else none
def fRmL (a b : Int) (k : Int → Option α) : Option α := if (0 ≤ a ∧ InL a) ∧ (0 < b ∧ InL b) then k (a % b) else none
def fX2 (a : Int) (k : Option α) : Option α := if InI a then k else none
def fGt (M : fMem) (q j : Nat) (k : Int → Option α) : Option α := k (M q j)
def fPt (M : fMem) (q j : Nat) (v : Int) (k : fMem → Option α) : Option α := k (fup M q j v)
def fRd (M : fMem) (q n : Nat) (i : Int) (k : Int → Option α) : Option α := if 0 ≤ i ∧ i < (n : Int) then k (M q i.toNat) else none
def fIx (n b t : Nat) (i : Int) (k : Nat → Option α) : Option α := if 0 ≤ i ∧ i < (n : Int) then k (b + t * i.toNat) else none
def fWr (M : fMem) (q n : Nat) (i v : Int) (k : fMem → Option α) : Option α := if 0 ≤ i ∧ i < (n : Int) then k (fup M q i.toNat v) else none
def fWz (M : fMem) (q n : Nat) (i v : Int) (k : fMem → Option α) : Option α := if (0 ≤ i ∧ i < (n : Int)) ∧ (v = 0 ∨ v = 1) then k (fup M q i.toNat v) else none
def fPz (M : fMem) (q j : Nat) (v : Int) (k : fMem → Option α) : Option α := if v = 0 ∨ v = 1 then k (fup M q j v) else none
def fCl (d : fOp) (k : Int → fMem → Option α) : Option α := match d with
  | some (v, M) => k v M
  | none => none
def fRz (v : Int) (M : fMem) : fOp := if v = 0 ∨ v = 1 then some (v, M) else none
def fCk (v : Int) (k : Nat → Option α) : Option α := if 47 ≤ v.toNat ∧ v.toNat < 59 then k v.toNat else none
def fSh (t n : Int) (k : Int → Option α) : Option α := if (0 ≤ t ∧ t < 4611686018427387904) ∧ (0 ≤ n ∧ n < 64) then k (t / 2 ^ n.toNat) else none
def fA31 (t : Int) (k : Int → Option α) : Option α := if 0 ≤ t ∧ InL t then k (t % 32) else none
end FD
theorem fEnt_put {aC : Nat → ClassId} {ad : Nat → Nat} {M : fMem} {q kf ci : Nat} {fs : List (Nat × Nat)} {x : Nat × Nat} {v : Int} {w : Value} (hf : fs[kf]? = some x) (hw : fVal ad v x = w) : fEnt aC ad (fup M q kf v q) (4, ci, fs) = .inr (ci, (fs.mapIdx (fun k q' => fVal ad (M q k) q')).set kf w) := by
  have hlt : kf < fs.length := (List.getElem?_eq_some_iff.mp hf).1
  show (Sum.inr (ci, fs.mapIdx (fun k q' => fVal ad (fup M q kf v q k) q')) : va_E) = _
  congr 2
  apply List.ext_getElem?
  intro j
  rw [List.getElem?_mapIdx, fup_row]
  by_cases hj : j = kf
  · subst hj
    rw [List.getElem?_set_self (by simpa using hlt), hf, ← hw]
    simp
  · rw [List.getElem?_set_ne (Ne.symm hj), List.getElem?_mapIdx]
    simp [hj]
section FW
variable {p : Program} {l : Launch} {e : Env} {R : Room} {s : State} {m : MethodId} {args : Array Value} {below : List Frame} {meth : Method} {c : Code} {cl : List vw_C} {D : va_G} {aC : Nat → ClassId} {tb : List fEn} {ad : Nat → Nat} {A : Nat → Prop} {nL cells slots : Nat} {Qf : Int × fMem → State → Prop}
variable {Ts : List Cond} {cc : ByteArray} {own : String} {pc : Nat} {lv : List (Nat × Value)} {st : List Value} {M : fMem} {d : fOp}
theorem g_none : GO p l e R s m args below meth c cl D aC tb ad A nL cells slots Qf pc lv st M none := fun _ h => by cases h
theorem g_lv {lv' : List (Nat × Value)} (ks : List Nat) (hl : lv_pick lv ks = lv') (k : GO p l e R s m args below meth c cl D aC tb ad A nL cells slots Qf pc lv' st M d) : GO p l e R s m args below meth c cl D aC tb ad A nL cells slots Qf pc lv st M d :=
  fun r hr H locs ls h hP hS => k r hr H locs ls (lv_sub h ks hl) hP hS
theorem g_iconst (hC : fCx p s m args c cl D aC tb ad A Ts cc own nL) {n : Int} (pc' : Nat) (hd : decode cc pc = .ok (.iconst n, 1)) (hp : pc + 1 = pc')
    (k : GO p l e R s m args below meth c cl D aC tb ad A nL cells slots Qf pc' lv (.int (fI n) :: st) M d) : GO p l e R s m args below meth c cl D aC tb ad A nL cells slots Qf pc lv st M d := by
  subst hp
  exact fun r hr H locs ls hl hP hS => lv_iconst hC.1 hC.2.1 hd rfl (k r hr H locs ls hl hP hS)
theorem g_bipush (hC : fCx p s m args c cl D aC tb ad A Ts cc own nL) {n : Int} (pc' : Nat) (hd : decode cc pc = .ok (.bipush n, 2)) (hp : pc + 2 = pc') (hv : (Int8.ofInt n).toInt32 = fI n)
    (k : GO p l e R s m args below meth c cl D aC tb ad A nL cells slots Qf pc' lv (.int (fI n) :: st) M d) : GO p l e R s m args below meth c cl D aC tb ad A nL cells slots Qf pc lv st M d := by
  subst hp
  exact fun r hr H locs ls hl hP hS => lv_bipush hC.1 hC.2.1 hd hv (k r hr H locs ls hl hP hS)
theorem g_sipush (hC : fCx p s m args c cl D aC tb ad A Ts cc own nL) {n : Int} (pc' : Nat) (hd : decode cc pc = .ok (.sipush n, 3)) (hp : pc + 3 = pc') (hv : (Int16.ofInt n).toInt32 = fI n)
    (k : GO p l e R s m args below meth c cl D aC tb ad A nL cells slots Qf pc' lv (.int (fI n) :: st) M d) : GO p l e R s m args below meth c cl D aC tb ad A nL cells slots Qf pc lv st M d := by
  subst hp
  exact fun r hr H locs ls hl hP hS => lv_sipush hC.1 hC.2.1 hd hv (k r hr H locs ls hl hP hS)
theorem g_lconst (hC : fCx p s m args c cl D aC tb ad A Ts cc own nL) {n : Fin 2} (a : Int) (pc' : Nat) (hd : decode cc pc = .ok (.lconst n, 1)) (hp : pc + 1 = pc') (hv : Int64.ofNat (n : Nat) = fL a)
    (k : GO p l e R s m args below meth c cl D aC tb ad A nL cells slots Qf pc' lv (.long (fL a) :: st) M d) : GO p l e R s m args below meth c cl D aC tb ad A nL cells slots Qf pc lv st M d := by
  subst hp
  exact fun r hr H locs ls hl hP hS => lv_lconst hC.1 hC.2.1 hd hv (k r hr H locs ls hl hP hS)
theorem g_ldc (hC : fCx p s m args c cl D aC tb ad A Ts cc own nL) {i : Nat} (a : Int) (pc' : Nat) (hw : Cond.constant own i (fI a) ∈ Ts) (hd : decode cc pc = .ok (.ldc i, 2)) (hp : pc + 2 = pc')
    (k : GO p l e R s m args below meth c cl D aC tb ad A nL cells slots Qf pc' lv (.int (fI a) :: st) M d) : GO p l e R s m args below meth c cl D aC tb ad A nL cells slots Qf pc lv st M d := by
  subst hp
  exact fun r hr H locs ls hl hP hS => lv_ldc hC.1 hC.2.1 hC.2.2.2.1 (hC.2.2.2.2.1 _ hw) hd (k r hr H locs ls hl hP hS)
theorem g_ldc2 (hC : fCx p s m args c cl D aC tb ad A Ts cc own nL) {i : Nat} (a : Int) (pc' : Nat) (hw : Cond.constantLong own i (fL a) ∈ Ts) (hd : decode cc pc = .ok (.ldc2_w i, 3)) (hp : pc + 3 = pc')
    (k : GO p l e R s m args below meth c cl D aC tb ad A nL cells slots Qf pc' lv (.long (fL a) :: st) M d) : GO p l e R s m args below meth c cl D aC tb ad A nL cells slots Qf pc lv st M d := by
  subst hp
  exact fun r hr H locs ls hl hP hS => lv_ldc2 hC.1 hC.2.1 hC.2.2.2.1 (hC.2.2.2.2.1 _ hw) hd (k r hr H locs ls hl hP hS)
theorem g_iload_n (hC : fCx p s m args c cl D aC tb ad A Ts cc own nL) {z : Fin 4} {x : Int32} {i : Nat} (j pc' : Nat) (hj : lv[j]? = some (i, .int x)) (hd : decode cc pc = .ok (.iload_n z, 1)) (hi : (z : Nat) = i) (hp : pc + 1 = pc')
    (k : GO p l e R s m args below meth c cl D aC tb ad A nL cells slots Qf pc' lv (.int x :: st) M d) : GO p l e R s m args below meth c cl D aC tb ad A nL cells slots Qf pc lv st M d := by
  subst hp
  exact fun r hr H locs ls hl hP hS => lv_iload_n hC.1 hC.2.1 hd hi (lv_at hl j hj) (k r hr H locs ls hl hP hS)
theorem g_iload (hC : fCx p s m args c cl D aC tb ad A Ts cc own nL) {x : Int32} {i : Nat} (j pc' : Nat) (hj : lv[j]? = some (i, .int x)) (hd : decode cc pc = .ok (.iload i, 2)) (hp : pc + 2 = pc')
    (k : GO p l e R s m args below meth c cl D aC tb ad A nL cells slots Qf pc' lv (.int x :: st) M d) : GO p l e R s m args below meth c cl D aC tb ad A nL cells slots Qf pc lv st M d := by
  subst hp
  exact fun r hr H locs ls hl hP hS => lv_iload hC.1 hC.2.1 hd (lv_at hl j hj) (k r hr H locs ls hl hP hS)
theorem g_lload_n (hC : fCx p s m args c cl D aC tb ad A Ts cc own nL) {z : Fin 4} {x : Int64} {i : Nat} (j pc' : Nat) (hj : lv[j]? = some (i, .long x)) (hd : decode cc pc = .ok (.lload_n z, 1)) (hi : (z : Nat) = i) (hp : pc + 1 = pc')
    (k : GO p l e R s m args below meth c cl D aC tb ad A nL cells slots Qf pc' lv (.long x :: st) M d) : GO p l e R s m args below meth c cl D aC tb ad A nL cells slots Qf pc lv st M d := by
  subst hp
  exact fun r hr H locs ls hl hP hS => lv_lload_n hC.1 hC.2.1 hd hi (lv_at hl j hj) (k r hr H locs ls hl hP hS)
theorem g_lload (hC : fCx p s m args c cl D aC tb ad A Ts cc own nL) {x : Int64} {i : Nat} (j pc' : Nat) (hj : lv[j]? = some (i, .long x)) (hd : decode cc pc = .ok (.lload i, 2)) (hp : pc + 2 = pc')
    (k : GO p l e R s m args below meth c cl D aC tb ad A nL cells slots Qf pc' lv (.long x :: st) M d) : GO p l e R s m args below meth c cl D aC tb ad A nL cells slots Qf pc lv st M d := by
  subst hp
  exact fun r hr H locs ls hl hP hS => lv_lload hC.1 hC.2.1 hd (lv_at hl j hj) (k r hr H locs ls hl hP hS)
theorem g_aload_n (hC : fCx p s m args c cl D aC tb ad A Ts cc own nL) {z : Fin 4} {x : Nat} {i : Nat} (j pc' : Nat) (hj : lv[j]? = some (i, .ref x)) (hd : decode cc pc = .ok (.aload_n z, 1)) (hi : (z : Nat) = i) (hp : pc + 1 = pc')
    (k : GO p l e R s m args below meth c cl D aC tb ad A nL cells slots Qf pc' lv (.ref x :: st) M d) : GO p l e R s m args below meth c cl D aC tb ad A nL cells slots Qf pc lv st M d := by
  subst hp
  exact fun r hr H locs ls hl hP hS => lv_aload_n hC.1 hC.2.1 hd hi (lv_at hl j hj) (k r hr H locs ls hl hP hS)
theorem g_aload (hC : fCx p s m args c cl D aC tb ad A Ts cc own nL) {x : Nat} {i : Nat} (j pc' : Nat) (hj : lv[j]? = some (i, .ref x)) (hd : decode cc pc = .ok (.aload i, 2)) (hp : pc + 2 = pc')
    (k : GO p l e R s m args below meth c cl D aC tb ad A nL cells slots Qf pc' lv (.ref x :: st) M d) : GO p l e R s m args below meth c cl D aC tb ad A nL cells slots Qf pc lv st M d := by
  subst hp
  exact fun r hr H locs ls hl hP hS => lv_aload hC.1 hC.2.1 hd (lv_at hl j hj) (k r hr H locs ls hl hP hS)
theorem g_istore_n (hC : fCx p s m args c cl D aC tb ad A Ts cc own nL) {z : Fin 4} {x : Int32} {i : Nat} (pc' : Nat) (lv' : List (Nat × Value)) (hd : decode cc pc = .ok (.istore_n z, 1)) (hi : (z : Nat) = i) (hn : i < nL) (hl : (i, Value.int x) :: lv.filter (fun q => !(q.1 == i) && !(q.1 + 1 == i && q.2.category == 2)) = lv') (hp : pc + 1 = pc')
    (k : GO p l e R s m args below meth c cl D aC tb ad A nL cells slots Qf pc' lv' st M d) : GO p l e R s m args below meth c cl D aC tb ad A nL cells slots Qf pc lv (.int x :: st) M d := by
  subst hp
  exact fun r hr H locs ls h hP hS => lv_istore_n hC.1 hC.2.1 hd hi h hn hl (fun ls' h' => k r hr H locs ls' h' hP hS)
theorem g_istore (hC : fCx p s m args c cl D aC tb ad A Ts cc own nL) {x : Int32} {i : Nat} (pc' : Nat) (lv' : List (Nat × Value)) (hd : decode cc pc = .ok (.istore i, 2)) (hn : i < nL) (hl : (i, Value.int x) :: lv.filter (fun q => !(q.1 == i) && !(q.1 + 1 == i && q.2.category == 2)) = lv') (hp : pc + 2 = pc')
    (k : GO p l e R s m args below meth c cl D aC tb ad A nL cells slots Qf pc' lv' st M d) : GO p l e R s m args below meth c cl D aC tb ad A nL cells slots Qf pc lv (.int x :: st) M d := by
  subst hp
  exact fun r hr H locs ls h hP hS => lv_istore hC.1 hC.2.1 hd h hn hl (fun ls' h' => k r hr H locs ls' h' hP hS)
theorem g_lstore_n (hC : fCx p s m args c cl D aC tb ad A Ts cc own nL) {z : Fin 4} {x : Int64} {i : Nat} (pc' : Nat) (lv' : List (Nat × Value)) (hd : decode cc pc = .ok (.lstore_n z, 1)) (hi : (z : Nat) = i) (hn : i + 1 < nL) (hl : (i, Value.long x) :: lv.filter (fun q => !(q.1 == i) && (!(q.1 == i + 1) && !(q.1 + 1 == i && q.2.category == 2))) = lv') (hp : pc + 1 = pc')
    (k : GO p l e R s m args below meth c cl D aC tb ad A nL cells slots Qf pc' lv' st M d) : GO p l e R s m args below meth c cl D aC tb ad A nL cells slots Qf pc lv (.long x :: st) M d := by
  subst hp
  exact fun r hr H locs ls h hP hS => lv_lstore_n hC.1 hC.2.1 hd hi h hn hl (fun ls' h' => k r hr H locs ls' h' hP hS)
theorem g_lstore (hC : fCx p s m args c cl D aC tb ad A Ts cc own nL) {x : Int64} {i : Nat} (pc' : Nat) (lv' : List (Nat × Value)) (hd : decode cc pc = .ok (.lstore i, 2)) (hn : i + 1 < nL) (hl : (i, Value.long x) :: lv.filter (fun q => !(q.1 == i) && (!(q.1 == i + 1) && !(q.1 + 1 == i && q.2.category == 2))) = lv') (hp : pc + 2 = pc')
    (k : GO p l e R s m args below meth c cl D aC tb ad A nL cells slots Qf pc' lv' st M d) : GO p l e R s m args below meth c cl D aC tb ad A nL cells slots Qf pc lv (.long x :: st) M d := by
  subst hp
  exact fun r hr H locs ls h hP hS => lv_lstore hC.1 hC.2.1 hd h hn hl (fun ls' h' => k r hr H locs ls' h' hP hS)
theorem g_astore_n (hC : fCx p s m args c cl D aC tb ad A Ts cc own nL) {z : Fin 4} {x : Nat} {i : Nat} (pc' : Nat) (lv' : List (Nat × Value)) (hd : decode cc pc = .ok (.astore_n z, 1)) (hi : (z : Nat) = i) (hn : i < nL) (hl : (i, Value.ref x) :: lv.filter (fun q => !(q.1 == i) && !(q.1 + 1 == i && q.2.category == 2)) = lv') (hp : pc + 1 = pc')
    (k : GO p l e R s m args below meth c cl D aC tb ad A nL cells slots Qf pc' lv' st M d) : GO p l e R s m args below meth c cl D aC tb ad A nL cells slots Qf pc lv (.ref x :: st) M d := by
  subst hp
  exact fun r hr H locs ls h hP hS => lv_astore_n hC.1 hC.2.1 hd hi h hn hl (fun ls' h' => k r hr H locs ls' h' hP hS)
theorem g_astore (hC : fCx p s m args c cl D aC tb ad A Ts cc own nL) {x : Nat} {i : Nat} (pc' : Nat) (lv' : List (Nat × Value)) (hd : decode cc pc = .ok (.astore i, 2)) (hn : i < nL) (hl : (i, Value.ref x) :: lv.filter (fun q => !(q.1 == i) && !(q.1 + 1 == i && q.2.category == 2)) = lv') (hp : pc + 2 = pc')
    (k : GO p l e R s m args below meth c cl D aC tb ad A nL cells slots Qf pc' lv' st M d) : GO p l e R s m args below meth c cl D aC tb ad A nL cells slots Qf pc lv (.ref x :: st) M d := by
  subst hp
  exact fun r hr H locs ls h hP hS => lv_astore hC.1 hC.2.1 hd h hn hl (fun ls' h' => k r hr H locs ls' h' hP hS)
theorem g_iinc (hC : fCx p s m args c cl D aC tb ad A Ts cc own nL) {n a : Int} {i : Nat} (j pc' : Nat) (lv' : List (Nat × Value)) (hj : lv[j]? = some (i, .int (fI a))) (hd : decode cc pc = .ok (.iinc i n, 3)) (hn : i < nL) (hl : (i, Value.int (fI (a + n))) :: lv.filter (fun q => !(q.1 == i) && !(q.1 + 1 == i && q.2.category == 2)) = lv') (hp : pc + 3 = pc')
    (k : GO p l e R s m args below meth c cl D aC tb ad A nL cells slots Qf pc' lv' st M d) : GO p l e R s m args below meth c cl D aC tb ad A nL cells slots Qf pc lv st M d := by
  subst hp
  exact fun r hr H locs ls h hP hS => lv_iinc hC.1 hC.2.1 hd h hj (fI_add a n) hn hl (fun ls' h' => k r hr H locs ls' h' hP hS)
theorem g_iadd (hC : fCx p s m args c cl D aC tb ad A Ts cc own nL) {a b : Int} (pc' : Nat) (hd : decode cc pc = .ok (.iadd, 1)) (hp : pc + 1 = pc')
    (k : GO p l e R s m args below meth c cl D aC tb ad A nL cells slots Qf pc' lv (.int (fI (a + b)) :: st) M d) : GO p l e R s m args below meth c cl D aC tb ad A nL cells slots Qf pc lv (.int (fI b) :: .int (fI a) :: st) M d := by
  subst hp
  exact fun r hr H locs ls hl hP hS => lv_iadd hC.1 hC.2.1 hd (by rw [fI_add]; exact k r hr H locs ls hl hP hS)
theorem g_isub (hC : fCx p s m args c cl D aC tb ad A Ts cc own nL) {a b : Int} (pc' : Nat) (hd : decode cc pc = .ok (.isub, 1)) (hp : pc + 1 = pc')
    (k : GO p l e R s m args below meth c cl D aC tb ad A nL cells slots Qf pc' lv (.int (fI (a - b)) :: st) M d) : GO p l e R s m args below meth c cl D aC tb ad A nL cells slots Qf pc lv (.int (fI b) :: .int (fI a) :: st) M d := by
  subst hp
  exact fun r hr H locs ls hl hP hS => lv_isub hC.1 hC.2.1 hd (by rw [fI_sub]; exact k r hr H locs ls hl hP hS)
theorem g_imul (hC : fCx p s m args c cl D aC tb ad A Ts cc own nL) {a b : Int} (pc' : Nat) (hd : decode cc pc = .ok (.imul, 1)) (hp : pc + 1 = pc')
    (k : GO p l e R s m args below meth c cl D aC tb ad A nL cells slots Qf pc' lv (.int (fI (a * b)) :: st) M d) : GO p l e R s m args below meth c cl D aC tb ad A nL cells slots Qf pc lv (.int (fI b) :: .int (fI a) :: st) M d := by
  subst hp
  exact fun r hr H locs ls hl hP hS => lv_imul hC.1 hC.2.1 hd (by rw [fI_mul]; exact k r hr H locs ls hl hP hS)
theorem g_ladd (hC : fCx p s m args c cl D aC tb ad A Ts cc own nL) {a b : Int} (pc' : Nat) (hd : decode cc pc = .ok (.ladd, 1)) (hp : pc + 1 = pc')
    (k : GO p l e R s m args below meth c cl D aC tb ad A nL cells slots Qf pc' lv (.long (fL (a + b)) :: st) M d) : GO p l e R s m args below meth c cl D aC tb ad A nL cells slots Qf pc lv (.long (fL b) :: .long (fL a) :: st) M d := by
  subst hp
  exact fun r hr H locs ls hl hP hS => lv_ladd hC.1 hC.2.1 hd (by rw [fL_add]; exact k r hr H locs ls hl hP hS)
theorem g_lmul (hC : fCx p s m args c cl D aC tb ad A Ts cc own nL) {a b : Int} (pc' : Nat) (hd : decode cc pc = .ok (.lmul, 1)) (hp : pc + 1 = pc')
    (k : GO p l e R s m args below meth c cl D aC tb ad A nL cells slots Qf pc' lv (.long (fL (a * b)) :: st) M d) : GO p l e R s m args below meth c cl D aC tb ad A nL cells slots Qf pc lv (.long (fL b) :: .long (fL a) :: st) M d := by
  subst hp
  exact fun r hr H locs ls hl hP hS => lv_lmul hC.1 hC.2.1 hd (by rw [fL_mul]; exact k r hr H locs ls hl hP hS)
theorem g_idiv (hC : fCx p s m args c cl D aC tb ad A Ts cc own nL) {a b : Int} {kd : Int → fOp} (pc' : Nat) (hd : decode cc pc = .ok (.idiv, 1)) (hp : pc + 1 = pc')
    (k : ∀ x : Int, GO p l e R s m args below meth c cl D aC tb ad A nL cells slots Qf pc' lv (.int (fI x) :: st) M (kd x)) : GO p l e R s m args below meth c cl D aC tb ad A nL cells slots Qf pc lv (.int (fI b) :: .int (fI a) :: st) M (fDvI a b kd) := by
  subst hp
  intro r hr H locs ls hl hP hS
  unfold fDvI at hr
  split at hr
  · rename_i h
    exact lv_idiv hC.1 hC.2.1 hd (fI_ne0 h.2) (by rw [fI_div h.1 h.2]; exact k _ r hr H locs ls hl hP hS)
  · cases hr
theorem g_irem (hC : fCx p s m args c cl D aC tb ad A Ts cc own nL) {a b : Int} {kd : Int → fOp} (pc' : Nat) (hd : decode cc pc = .ok (.irem, 1)) (hp : pc + 1 = pc')
    (k : ∀ x : Int, GO p l e R s m args below meth c cl D aC tb ad A nL cells slots Qf pc' lv (.int (fI x) :: st) M (kd x)) : GO p l e R s m args below meth c cl D aC tb ad A nL cells slots Qf pc lv (.int (fI b) :: .int (fI a) :: st) M (fRmI a b kd) := by
  subst hp
  intro r hr H locs ls hl hP hS
  unfold fRmI at hr
  split at hr
  · rename_i h
    exact lv_irem hC.1 hC.2.1 hd (fI_ne0 h.2) (by rw [fI_rem h.1 h.2]; exact k _ r hr H locs ls hl hP hS)
  · cases hr
theorem g_ldiv (hC : fCx p s m args c cl D aC tb ad A Ts cc own nL) {a b : Int} {kd : Int → fOp} (pc' : Nat) (hd : decode cc pc = .ok (.ldiv, 1)) (hp : pc + 1 = pc')
    (k : ∀ x : Int, GO p l e R s m args below meth c cl D aC tb ad A nL cells slots Qf pc' lv (.long (fL x) :: st) M (kd x)) : GO p l e R s m args below meth c cl D aC tb ad A nL cells slots Qf pc lv (.long (fL b) :: .long (fL a) :: st) M (fDvL a b kd) := by
  subst hp
  intro r hr H locs ls hl hP hS
  unfold fDvL at hr
  split at hr
  · rename_i h
    exact lv_ldiv hC.1 hC.2.1 hd (fL_ne0 h.2) (by rw [fL_div h.1 h.2]; exact k _ r hr H locs ls hl hP hS)
  · cases hr
theorem g_lrem (hC : fCx p s m args c cl D aC tb ad A Ts cc own nL) {a b : Int} {kd : Int → fOp} (pc' : Nat) (hd : decode cc pc = .ok (.lrem, 1)) (hp : pc + 1 = pc')
    (k : ∀ x : Int, GO p l e R s m args below meth c cl D aC tb ad A nL cells slots Qf pc' lv (.long (fL x) :: st) M (kd x)) : GO p l e R s m args below meth c cl D aC tb ad A nL cells slots Qf pc lv (.long (fL b) :: .long (fL a) :: st) M (fRmL a b kd) := by
  subst hp
  intro r hr H locs ls hl hP hS
  unfold fRmL at hr
  split at hr
  · rename_i h
    exact lv_lrem hC.1 hC.2.1 hd (fL_ne0 h.2) (by rw [fL_rem h.1 h.2]; exact k _ r hr H locs ls hl hP hS)
  · cases hr
theorem g_i2l (hC : fCx p s m args c cl D aC tb ad A Ts cc own nL) {a : Int} (pc' : Nat) (hd : decode cc pc = .ok (.i2l, 1)) (hp : pc + 1 = pc')
    (k : GO p l e R s m args below meth c cl D aC tb ad A nL cells slots Qf pc' lv (.long (fL a) :: st) M d) : GO p l e R s m args below meth c cl D aC tb ad A nL cells slots Qf pc lv (.int (fI a) :: st) M (fX2 a d) := by
  subst hp
  intro r hr H locs ls hl hP hS
  unfold fX2 at hr
  split at hr
  · rename_i h
    exact lv_i2l hC.1 hC.2.1 hd (fI_i2l h) (k r hr H locs ls hl hP hS)
  · cases hr
theorem g_l2i (hC : fCx p s m args c cl D aC tb ad A Ts cc own nL) {a : Int} (pc' : Nat) (hd : decode cc pc = .ok (.l2i, 1)) (hp : pc + 1 = pc')
    (k : GO p l e R s m args below meth c cl D aC tb ad A nL cells slots Qf pc' lv (.int (fI a) :: st) M d) : GO p l e R s m args below meth c cl D aC tb ad A nL cells slots Qf pc lv (.long (fL a) :: st) M d := by
  subst hp
  exact fun r hr H locs ls hl hP hS => lv_l2i hC.1 hC.2.1 hd (fL_l2i a) (k r hr H locs ls hl hP hS)
theorem g_dup (hC : fCx p s m args c cl D aC tb ad A Ts cc own nL) {v : Value} (pc' : Nat) (hd : decode cc pc = .ok (.dup, 1)) (hv : v.category = 1) (hp : pc + 1 = pc')
    (k : GO p l e R s m args below meth c cl D aC tb ad A nL cells slots Qf pc' lv (v :: v :: st) M d) : GO p l e R s m args below meth c cl D aC tb ad A nL cells slots Qf pc lv (v :: st) M d := by
  subst hp
  exact fun r hr H locs ls hl hP hS => lv_dup hC.1 hC.2.1 hd hv (k r hr H locs ls hl hP hS)
theorem g_dup2 (hC : fCx p s m args c cl D aC tb ad A Ts cc own nL) {v w : Value} (pc' : Nat) (hd : decode cc pc = .ok (.dup2, 1)) (hv : v.category = 1) (hw : w.category = 1) (hp : pc + 1 = pc')
    (k : GO p l e R s m args below meth c cl D aC tb ad A nL cells slots Qf pc' lv (v :: w :: v :: w :: st) M d) : GO p l e R s m args below meth c cl D aC tb ad A nL cells slots Qf pc lv (v :: w :: st) M d := by
  subst hp
  exact fun r hr H locs ls hl hP hS => lv_dup2_11 hC.1 hC.2.1 hd hv hw (k r hr H locs ls hl hP hS)
theorem g_dup_x1 (hC : fCx p s m args c cl D aC tb ad A Ts cc own nL) {v w : Value} (pc' : Nat) (hd : decode cc pc = .ok (.dup_x1, 1)) (hv : v.category = 1) (hw : w.category = 1) (hp : pc + 1 = pc')
    (k : GO p l e R s m args below meth c cl D aC tb ad A nL cells slots Qf pc' lv (v :: w :: v :: st) M d) : GO p l e R s m args below meth c cl D aC tb ad A nL cells slots Qf pc lv (v :: w :: st) M d := by
  subst hp
  exact fun r hr H locs ls hl hP hS => lv_dup_x1 hC.1 hC.2.1 hd hv hw (k r hr H locs ls hl hP hS)
theorem g_pop (hC : fCx p s m args c cl D aC tb ad A Ts cc own nL) {v : Value} (pc' : Nat) (hd : decode cc pc = .ok (.pop, 1)) (hv : v.category = 1) (hp : pc + 1 = pc')
    (k : GO p l e R s m args below meth c cl D aC tb ad A nL cells slots Qf pc' lv st M d) : GO p l e R s m args below meth c cl D aC tb ad A nL cells slots Qf pc lv (v :: st) M d := by
  subst hp
  exact fun r hr H locs ls hl hP hS => lv_pop hC.1 hC.2.1 hd hv (k r hr H locs ls hl hP hS)
theorem g_goto (hC : fCx p s m args c cl D aC tb ad A Ts cc own nL) {off : Int} (tgt : Nat) (hd : decode cc pc = .ok (.goto off, 3)) (ht : (pc : Int) + off = (tgt : Int))
    (k : GO p l e R s m args below meth c cl D aC tb ad A nL cells slots Qf tgt lv st M d) : GO p l e R s m args below meth c cl D aC tb ad A nL cells slots Qf pc lv st M d :=
  fun r hr H locs ls hl hP hS => lv_goto hC.1 hC.2.1 hd ht (k r hr H locs ls hl hP hS)
theorem g_icmp_eq (hC : fCx p s m args c cl D aC tb ad A Ts cc own nL) {a b : Int} {off : Int} {dT dF : fOp} (tgt pc' : Nat) (hd : decode cc pc = .ok (.if_icmp .eq off, 3)) (ht : (pc : Int) + off = (tgt : Int)) (hp : pc + 3 = pc')
    (kt : GO p l e R s m args below meth c cl D aC tb ad A nL cells slots Qf tgt lv st M dT) (kf : GO p l e R s m args below meth c cl D aC tb ad A nL cells slots Qf pc' lv st M dF) : GO p l e R s m args below meth c cl D aC tb ad A nL cells slots Qf pc lv (.int (fI b) :: .int (fI a) :: st) M (fEq a b dT dF) := by
  subst hp
  intro r hr H locs ls hl hP hS
  unfold fEq at hr
  split at hr
  · rename_i hab
    refine lv_icmp_eq hC.1 hC.2.1 hd ht (fun h => ?_) (fun h => ?_)
    · rw [fI_eq hab.1 hab.2] at h
      rw [if_pos h] at hr
      exact kt r hr H locs ls hl hP hS
    · rw [fI_eq hab.1 hab.2] at h
      rw [if_neg h] at hr
      exact kf r hr H locs ls hl hP hS
  · cases hr
theorem g_if_eq (hC : fCx p s m args c cl D aC tb ad A Ts cc own nL) {a : Int} {off : Int} {dT dF : fOp} (tgt pc' : Nat) (hd : decode cc pc = .ok (.ifCond .eq off, 3)) (ht : (pc : Int) + off = (tgt : Int)) (hp : pc + 3 = pc')
    (kt : GO p l e R s m args below meth c cl D aC tb ad A nL cells slots Qf tgt lv st M dT) (kf : GO p l e R s m args below meth c cl D aC tb ad A nL cells slots Qf pc' lv st M dF) : GO p l e R s m args below meth c cl D aC tb ad A nL cells slots Qf pc lv (.int (fI a) :: st) M (fEq a 0 dT dF) := by
  subst hp
  intro r hr H locs ls hl hP hS
  unfold fEq at hr
  split at hr
  · rename_i hab
    refine lv_if_eq hC.1 hC.2.1 hd ht (fun h => ?_) (fun h => ?_)
    · rw [← fI_0] at h; rw [fI_eq hab.1 hab.2] at h
      rw [if_pos h] at hr
      exact kt r hr H locs ls hl hP hS
    · rw [← fI_0] at h; rw [fI_eq hab.1 hab.2] at h
      rw [if_neg h] at hr
      exact kf r hr H locs ls hl hP hS
  · cases hr
theorem g_icmp_ne (hC : fCx p s m args c cl D aC tb ad A Ts cc own nL) {a b : Int} {off : Int} {dT dF : fOp} (tgt pc' : Nat) (hd : decode cc pc = .ok (.if_icmp .ne off, 3)) (ht : (pc : Int) + off = (tgt : Int)) (hp : pc + 3 = pc')
    (kt : GO p l e R s m args below meth c cl D aC tb ad A nL cells slots Qf tgt lv st M dT) (kf : GO p l e R s m args below meth c cl D aC tb ad A nL cells slots Qf pc' lv st M dF) : GO p l e R s m args below meth c cl D aC tb ad A nL cells slots Qf pc lv (.int (fI b) :: .int (fI a) :: st) M (fEq a b dF dT) := by
  subst hp
  intro r hr H locs ls hl hP hS
  unfold fEq at hr
  split at hr
  · rename_i hab
    refine lv_icmp_ne hC.1 hC.2.1 hd ht (fun h => ?_) (fun h => ?_)
    · rw [fI_eq hab.1 hab.2] at h
      rw [if_neg h] at hr
      exact kt r hr H locs ls hl hP hS
    · rw [fI_eq hab.1 hab.2] at h
      rw [if_pos h] at hr
      exact kf r hr H locs ls hl hP hS
  · cases hr
theorem g_if_ne (hC : fCx p s m args c cl D aC tb ad A Ts cc own nL) {a : Int} {off : Int} {dT dF : fOp} (tgt pc' : Nat) (hd : decode cc pc = .ok (.ifCond .ne off, 3)) (ht : (pc : Int) + off = (tgt : Int)) (hp : pc + 3 = pc')
    (kt : GO p l e R s m args below meth c cl D aC tb ad A nL cells slots Qf tgt lv st M dT) (kf : GO p l e R s m args below meth c cl D aC tb ad A nL cells slots Qf pc' lv st M dF) : GO p l e R s m args below meth c cl D aC tb ad A nL cells slots Qf pc lv (.int (fI a) :: st) M (fEq a 0 dF dT) := by
  subst hp
  intro r hr H locs ls hl hP hS
  unfold fEq at hr
  split at hr
  · rename_i hab
    refine lv_if_ne hC.1 hC.2.1 hd ht (fun h => ?_) (fun h => ?_)
    · rw [← fI_0] at h; rw [fI_eq hab.1 hab.2] at h
      rw [if_neg h] at hr
      exact kt r hr H locs ls hl hP hS
    · rw [← fI_0] at h; rw [fI_eq hab.1 hab.2] at h
      rw [if_pos h] at hr
      exact kf r hr H locs ls hl hP hS
  · cases hr
theorem g_icmp_lt (hC : fCx p s m args c cl D aC tb ad A Ts cc own nL) {a b : Int} {off : Int} {dT dF : fOp} (tgt pc' : Nat) (hd : decode cc pc = .ok (.if_icmp .lt off, 3)) (ht : (pc : Int) + off = (tgt : Int)) (hp : pc + 3 = pc')
    (kt : GO p l e R s m args below meth c cl D aC tb ad A nL cells slots Qf tgt lv st M dT) (kf : GO p l e R s m args below meth c cl D aC tb ad A nL cells slots Qf pc' lv st M dF) : GO p l e R s m args below meth c cl D aC tb ad A nL cells slots Qf pc lv (.int (fI b) :: .int (fI a) :: st) M (fLt a b dT dF) := by
  subst hp
  intro r hr H locs ls hl hP hS
  unfold fLt at hr
  split at hr
  · rename_i hab
    refine lv_icmp_lt hC.1 hC.2.1 hd ht (fun h => ?_) (fun h => ?_)
    · rw [fI_lt hab.1 hab.2] at h
      rw [if_pos h] at hr
      exact kt r hr H locs ls hl hP hS
    · rw [fI_lt hab.1 hab.2] at h
      rw [if_neg h] at hr
      exact kf r hr H locs ls hl hP hS
  · cases hr
theorem g_if_lt (hC : fCx p s m args c cl D aC tb ad A Ts cc own nL) {a : Int} {off : Int} {dT dF : fOp} (tgt pc' : Nat) (hd : decode cc pc = .ok (.ifCond .lt off, 3)) (ht : (pc : Int) + off = (tgt : Int)) (hp : pc + 3 = pc')
    (kt : GO p l e R s m args below meth c cl D aC tb ad A nL cells slots Qf tgt lv st M dT) (kf : GO p l e R s m args below meth c cl D aC tb ad A nL cells slots Qf pc' lv st M dF) : GO p l e R s m args below meth c cl D aC tb ad A nL cells slots Qf pc lv (.int (fI a) :: st) M (fLt a 0 dT dF) := by
  subst hp
  intro r hr H locs ls hl hP hS
  unfold fLt at hr
  split at hr
  · rename_i hab
    refine lv_if_lt hC.1 hC.2.1 hd ht (fun h => ?_) (fun h => ?_)
    · rw [← fI_0] at h; rw [fI_lt hab.1 hab.2] at h
      rw [if_pos h] at hr
      exact kt r hr H locs ls hl hP hS
    · rw [← fI_0] at h; rw [fI_lt hab.1 hab.2] at h
      rw [if_neg h] at hr
      exact kf r hr H locs ls hl hP hS
  · cases hr
theorem g_icmp_ge (hC : fCx p s m args c cl D aC tb ad A Ts cc own nL) {a b : Int} {off : Int} {dT dF : fOp} (tgt pc' : Nat) (hd : decode cc pc = .ok (.if_icmp .ge off, 3)) (ht : (pc : Int) + off = (tgt : Int)) (hp : pc + 3 = pc')
    (kt : GO p l e R s m args below meth c cl D aC tb ad A nL cells slots Qf tgt lv st M dT) (kf : GO p l e R s m args below meth c cl D aC tb ad A nL cells slots Qf pc' lv st M dF) : GO p l e R s m args below meth c cl D aC tb ad A nL cells slots Qf pc lv (.int (fI b) :: .int (fI a) :: st) M (fLe b a dT dF) := by
  subst hp
  intro r hr H locs ls hl hP hS
  unfold fLe at hr
  split at hr
  · rename_i hab
    refine lv_icmp_ge hC.1 hC.2.1 hd ht (fun h => ?_) (fun h => ?_)
    · rw [fI_le hab.1 hab.2] at h
      rw [if_pos h] at hr
      exact kt r hr H locs ls hl hP hS
    · rw [fI_le hab.1 hab.2] at h
      rw [if_neg h] at hr
      exact kf r hr H locs ls hl hP hS
  · cases hr
theorem g_if_ge (hC : fCx p s m args c cl D aC tb ad A Ts cc own nL) {a : Int} {off : Int} {dT dF : fOp} (tgt pc' : Nat) (hd : decode cc pc = .ok (.ifCond .ge off, 3)) (ht : (pc : Int) + off = (tgt : Int)) (hp : pc + 3 = pc')
    (kt : GO p l e R s m args below meth c cl D aC tb ad A nL cells slots Qf tgt lv st M dT) (kf : GO p l e R s m args below meth c cl D aC tb ad A nL cells slots Qf pc' lv st M dF) : GO p l e R s m args below meth c cl D aC tb ad A nL cells slots Qf pc lv (.int (fI a) :: st) M (fLe 0 a dT dF) := by
  subst hp
  intro r hr H locs ls hl hP hS
  unfold fLe at hr
  split at hr
  · rename_i hab
    refine lv_if_ge hC.1 hC.2.1 hd ht (fun h => ?_) (fun h => ?_)
    · rw [← fI_0] at h; rw [fI_le hab.1 hab.2] at h
      rw [if_pos h] at hr
      exact kt r hr H locs ls hl hP hS
    · rw [← fI_0] at h; rw [fI_le hab.1 hab.2] at h
      rw [if_neg h] at hr
      exact kf r hr H locs ls hl hP hS
  · cases hr
theorem g_icmp_gt (hC : fCx p s m args c cl D aC tb ad A Ts cc own nL) {a b : Int} {off : Int} {dT dF : fOp} (tgt pc' : Nat) (hd : decode cc pc = .ok (.if_icmp .gt off, 3)) (ht : (pc : Int) + off = (tgt : Int)) (hp : pc + 3 = pc')
    (kt : GO p l e R s m args below meth c cl D aC tb ad A nL cells slots Qf tgt lv st M dT) (kf : GO p l e R s m args below meth c cl D aC tb ad A nL cells slots Qf pc' lv st M dF) : GO p l e R s m args below meth c cl D aC tb ad A nL cells slots Qf pc lv (.int (fI b) :: .int (fI a) :: st) M (fLt b a dT dF) := by
  subst hp
  intro r hr H locs ls hl hP hS
  unfold fLt at hr
  split at hr
  · rename_i hab
    refine lv_icmp_gt hC.1 hC.2.1 hd ht (fun h => ?_) (fun h => ?_)
    · rw [fI_lt hab.1 hab.2] at h
      rw [if_pos h] at hr
      exact kt r hr H locs ls hl hP hS
    · rw [fI_lt hab.1 hab.2] at h
      rw [if_neg h] at hr
      exact kf r hr H locs ls hl hP hS
  · cases hr
theorem g_if_gt (hC : fCx p s m args c cl D aC tb ad A Ts cc own nL) {a : Int} {off : Int} {dT dF : fOp} (tgt pc' : Nat) (hd : decode cc pc = .ok (.ifCond .gt off, 3)) (ht : (pc : Int) + off = (tgt : Int)) (hp : pc + 3 = pc')
    (kt : GO p l e R s m args below meth c cl D aC tb ad A nL cells slots Qf tgt lv st M dT) (kf : GO p l e R s m args below meth c cl D aC tb ad A nL cells slots Qf pc' lv st M dF) : GO p l e R s m args below meth c cl D aC tb ad A nL cells slots Qf pc lv (.int (fI a) :: st) M (fLt 0 a dT dF) := by
  subst hp
  intro r hr H locs ls hl hP hS
  unfold fLt at hr
  split at hr
  · rename_i hab
    refine lv_if_gt hC.1 hC.2.1 hd ht (fun h => ?_) (fun h => ?_)
    · rw [← fI_0] at h; rw [fI_lt hab.1 hab.2] at h
      rw [if_pos h] at hr
      exact kt r hr H locs ls hl hP hS
    · rw [← fI_0] at h; rw [fI_lt hab.1 hab.2] at h
      rw [if_neg h] at hr
      exact kf r hr H locs ls hl hP hS
  · cases hr
theorem g_icmp_le (hC : fCx p s m args c cl D aC tb ad A Ts cc own nL) {a b : Int} {off : Int} {dT dF : fOp} (tgt pc' : Nat) (hd : decode cc pc = .ok (.if_icmp .le off, 3)) (ht : (pc : Int) + off = (tgt : Int)) (hp : pc + 3 = pc')
    (kt : GO p l e R s m args below meth c cl D aC tb ad A nL cells slots Qf tgt lv st M dT) (kf : GO p l e R s m args below meth c cl D aC tb ad A nL cells slots Qf pc' lv st M dF) : GO p l e R s m args below meth c cl D aC tb ad A nL cells slots Qf pc lv (.int (fI b) :: .int (fI a) :: st) M (fLe a b dT dF) := by
  subst hp
  intro r hr H locs ls hl hP hS
  unfold fLe at hr
  split at hr
  · rename_i hab
    refine lv_icmp_le hC.1 hC.2.1 hd ht (fun h => ?_) (fun h => ?_)
    · rw [fI_le hab.1 hab.2] at h
      rw [if_pos h] at hr
      exact kt r hr H locs ls hl hP hS
    · rw [fI_le hab.1 hab.2] at h
      rw [if_neg h] at hr
      exact kf r hr H locs ls hl hP hS
  · cases hr
theorem g_if_le (hC : fCx p s m args c cl D aC tb ad A Ts cc own nL) {a : Int} {off : Int} {dT dF : fOp} (tgt pc' : Nat) (hd : decode cc pc = .ok (.ifCond .le off, 3)) (ht : (pc : Int) + off = (tgt : Int)) (hp : pc + 3 = pc')
    (kt : GO p l e R s m args below meth c cl D aC tb ad A nL cells slots Qf tgt lv st M dT) (kf : GO p l e R s m args below meth c cl D aC tb ad A nL cells slots Qf pc' lv st M dF) : GO p l e R s m args below meth c cl D aC tb ad A nL cells slots Qf pc lv (.int (fI a) :: st) M (fLe a 0 dT dF) := by
  subst hp
  intro r hr H locs ls hl hP hS
  unfold fLe at hr
  split at hr
  · rename_i hab
    refine lv_if_le hC.1 hC.2.1 hd ht (fun h => ?_) (fun h => ?_)
    · rw [← fI_0] at h; rw [fI_le hab.1 hab.2] at h
      rw [if_pos h] at hr
      exact kt r hr H locs ls hl hP hS
    · rw [← fI_0] at h; rw [fI_le hab.1 hab.2] at h
      rw [if_neg h] at hr
      exact kf r hr H locs ls hl hP hS
  · cases hr
theorem fCmp_eq {a b : Int} (ha : InL a) (hb : InL b) : lg_cmp (fL a) (fL b) = if b < a then 1 else if a = b then 0 else -1 := by
  unfold lg_cmp
  simp only [gt_iff_lt, fL_lt hb ha, fL_eq ha hb]
theorem g_lcmp_eq (hC : fCx p s m args c cl D aC tb ad A Ts cc own nL) {a b : Int} {off : Int} {dT dF : fOp} (tgt pc' : Nat) (hc : decode cc pc = .ok (.lcmp, 1)) (hd : decode cc (pc + 1) = .ok (.ifCond .eq off, 3)) (ht : ((pc + 1 : Nat) : Int) + off = (tgt : Int)) (hp : pc + 4 = pc')
    (kt : GO p l e R s m args below meth c cl D aC tb ad A nL cells slots Qf tgt lv st M dT) (kf : GO p l e R s m args below meth c cl D aC tb ad A nL cells slots Qf pc' lv st M dF) : GO p l e R s m args below meth c cl D aC tb ad A nL cells slots Qf pc lv (.long (fL b) :: .long (fL a) :: st) M (fEqL a b dT dF) := by
  subst hp
  intro r hr H locs ls hl hP hS
  unfold fEqL at hr
  split at hr
  · rename_i hab
    have hcm := fCmp_eq (a := a) (b := b) hab.1 hab.2
    refine W.lcmp hC.1 hC.2.1 hc ?_
    rw [hcm]
    refine lv_if_eq hC.1 hC.2.1 hd ht (fun h => ?_) (fun h => ?_)
    · have hz : a = b := by
        by_cases h1 : b < a
        · rw [if_pos h1] at h; first | omega | exact absurd h (by decide)
        · rw [if_neg h1] at h
          by_cases h2 : a = b
          · rw [if_pos h2] at h; first | omega | exact absurd h (by decide)
          · rw [if_neg h2] at h; first | omega | exact absurd h (by decide)
      rw [if_pos hz] at hr
      exact kt r hr H locs ls hl hP hS
    · have hz : ¬ a = b := by
        by_cases h1 : b < a
        · rw [if_pos h1] at h; first | omega | exact absurd h (by decide) | exact absurd (by decide) h
        · rw [if_neg h1] at h
          by_cases h2 : a = b
          · rw [if_pos h2] at h; first | omega | exact absurd h (by decide) | exact absurd (by decide) h
          · rw [if_neg h2] at h; first | omega | exact absurd h (by decide) | exact absurd (by decide) h
      rw [if_neg hz] at hr
      exact kf r hr H locs ls hl hP hS
  · cases hr
theorem g_lcmp_ne (hC : fCx p s m args c cl D aC tb ad A Ts cc own nL) {a b : Int} {off : Int} {dT dF : fOp} (tgt pc' : Nat) (hc : decode cc pc = .ok (.lcmp, 1)) (hd : decode cc (pc + 1) = .ok (.ifCond .ne off, 3)) (ht : ((pc + 1 : Nat) : Int) + off = (tgt : Int)) (hp : pc + 4 = pc')
    (kt : GO p l e R s m args below meth c cl D aC tb ad A nL cells slots Qf tgt lv st M dT) (kf : GO p l e R s m args below meth c cl D aC tb ad A nL cells slots Qf pc' lv st M dF) : GO p l e R s m args below meth c cl D aC tb ad A nL cells slots Qf pc lv (.long (fL b) :: .long (fL a) :: st) M (fEqL a b dF dT) := by
  subst hp
  intro r hr H locs ls hl hP hS
  unfold fEqL at hr
  split at hr
  · rename_i hab
    have hcm := fCmp_eq (a := a) (b := b) hab.1 hab.2
    refine W.lcmp hC.1 hC.2.1 hc ?_
    rw [hcm]
    refine lv_if_ne hC.1 hC.2.1 hd ht (fun h => ?_) (fun h => ?_)
    · have hz : ¬ a = b := by
        by_cases h1 : b < a
        · rw [if_pos h1] at h; first | omega | exact absurd h (by decide)
        · rw [if_neg h1] at h
          by_cases h2 : a = b
          · rw [if_pos h2] at h; first | omega | exact absurd h (by decide)
          · rw [if_neg h2] at h; first | omega | exact absurd h (by decide)
      rw [if_neg hz] at hr
      exact kt r hr H locs ls hl hP hS
    · have hz : a = b := by
        by_cases h1 : b < a
        · rw [if_pos h1] at h; first | omega | exact absurd h (by decide) | exact absurd (by decide) h
        · rw [if_neg h1] at h
          by_cases h2 : a = b
          · rw [if_pos h2] at h; first | omega | exact absurd h (by decide) | exact absurd (by decide) h
          · rw [if_neg h2] at h; first | omega | exact absurd h (by decide) | exact absurd (by decide) h
      rw [if_pos hz] at hr
      exact kf r hr H locs ls hl hP hS
  · cases hr
theorem g_lcmp_lt (hC : fCx p s m args c cl D aC tb ad A Ts cc own nL) {a b : Int} {off : Int} {dT dF : fOp} (tgt pc' : Nat) (hc : decode cc pc = .ok (.lcmp, 1)) (hd : decode cc (pc + 1) = .ok (.ifCond .lt off, 3)) (ht : ((pc + 1 : Nat) : Int) + off = (tgt : Int)) (hp : pc + 4 = pc')
    (kt : GO p l e R s m args below meth c cl D aC tb ad A nL cells slots Qf tgt lv st M dT) (kf : GO p l e R s m args below meth c cl D aC tb ad A nL cells slots Qf pc' lv st M dF) : GO p l e R s m args below meth c cl D aC tb ad A nL cells slots Qf pc lv (.long (fL b) :: .long (fL a) :: st) M (fLtL a b dT dF) := by
  subst hp
  intro r hr H locs ls hl hP hS
  unfold fLtL at hr
  split at hr
  · rename_i hab
    have hcm := fCmp_eq (a := a) (b := b) hab.1 hab.2
    refine W.lcmp hC.1 hC.2.1 hc ?_
    rw [hcm]
    refine lv_if_lt hC.1 hC.2.1 hd ht (fun h => ?_) (fun h => ?_)
    · have hz : a < b := by
        by_cases h1 : b < a
        · rw [if_pos h1] at h; first | omega | exact absurd h (by decide)
        · rw [if_neg h1] at h
          by_cases h2 : a = b
          · rw [if_pos h2] at h; first | omega | exact absurd h (by decide)
          · rw [if_neg h2] at h; first | omega | exact absurd h (by decide)
      rw [if_pos hz] at hr
      exact kt r hr H locs ls hl hP hS
    · have hz : ¬ a < b := by
        by_cases h1 : b < a
        · rw [if_pos h1] at h; first | omega | exact absurd h (by decide) | exact absurd (by decide) h
        · rw [if_neg h1] at h
          by_cases h2 : a = b
          · rw [if_pos h2] at h; first | omega | exact absurd h (by decide) | exact absurd (by decide) h
          · rw [if_neg h2] at h; first | omega | exact absurd h (by decide) | exact absurd (by decide) h
      rw [if_neg hz] at hr
      exact kf r hr H locs ls hl hP hS
  · cases hr
theorem g_lcmp_ge (hC : fCx p s m args c cl D aC tb ad A Ts cc own nL) {a b : Int} {off : Int} {dT dF : fOp} (tgt pc' : Nat) (hc : decode cc pc = .ok (.lcmp, 1)) (hd : decode cc (pc + 1) = .ok (.ifCond .ge off, 3)) (ht : ((pc + 1 : Nat) : Int) + off = (tgt : Int)) (hp : pc + 4 = pc')
    (kt : GO p l e R s m args below meth c cl D aC tb ad A nL cells slots Qf tgt lv st M dT) (kf : GO p l e R s m args below meth c cl D aC tb ad A nL cells slots Qf pc' lv st M dF) : GO p l e R s m args below meth c cl D aC tb ad A nL cells slots Qf pc lv (.long (fL b) :: .long (fL a) :: st) M (fLtL a b dF dT) := by
  subst hp
  intro r hr H locs ls hl hP hS
  unfold fLtL at hr
  split at hr
  · rename_i hab
    have hcm := fCmp_eq (a := a) (b := b) hab.1 hab.2
    refine W.lcmp hC.1 hC.2.1 hc ?_
    rw [hcm]
    refine lv_if_ge hC.1 hC.2.1 hd ht (fun h => ?_) (fun h => ?_)
    · have hz : ¬ a < b := by
        by_cases h1 : b < a
        · rw [if_pos h1] at h; first | omega | exact absurd h (by decide)
        · rw [if_neg h1] at h
          by_cases h2 : a = b
          · rw [if_pos h2] at h; first | omega | exact absurd h (by decide)
          · rw [if_neg h2] at h; first | omega | exact absurd h (by decide)
      rw [if_neg hz] at hr
      exact kt r hr H locs ls hl hP hS
    · have hz : a < b := by
        by_cases h1 : b < a
        · rw [if_pos h1] at h; first | omega | exact absurd h (by decide) | exact absurd (by decide) h
        · rw [if_neg h1] at h
          by_cases h2 : a = b
          · rw [if_pos h2] at h; first | omega | exact absurd h (by decide) | exact absurd (by decide) h
          · rw [if_neg h2] at h; first | omega | exact absurd h (by decide) | exact absurd (by decide) h
      rw [if_pos hz] at hr
      exact kf r hr H locs ls hl hP hS
  · cases hr
theorem g_lcmp_gt (hC : fCx p s m args c cl D aC tb ad A Ts cc own nL) {a b : Int} {off : Int} {dT dF : fOp} (tgt pc' : Nat) (hc : decode cc pc = .ok (.lcmp, 1)) (hd : decode cc (pc + 1) = .ok (.ifCond .gt off, 3)) (ht : ((pc + 1 : Nat) : Int) + off = (tgt : Int)) (hp : pc + 4 = pc')
    (kt : GO p l e R s m args below meth c cl D aC tb ad A nL cells slots Qf tgt lv st M dT) (kf : GO p l e R s m args below meth c cl D aC tb ad A nL cells slots Qf pc' lv st M dF) : GO p l e R s m args below meth c cl D aC tb ad A nL cells slots Qf pc lv (.long (fL b) :: .long (fL a) :: st) M (fLtL b a dT dF) := by
  subst hp
  intro r hr H locs ls hl hP hS
  unfold fLtL at hr
  split at hr
  · rename_i hab
    have hcm := fCmp_eq (a := a) (b := b) hab.2 hab.1
    refine W.lcmp hC.1 hC.2.1 hc ?_
    rw [hcm]
    refine lv_if_gt hC.1 hC.2.1 hd ht (fun h => ?_) (fun h => ?_)
    · have hz : b < a := by
        by_cases h1 : b < a
        · rw [if_pos h1] at h; first | omega | exact absurd h (by decide)
        · rw [if_neg h1] at h
          by_cases h2 : a = b
          · rw [if_pos h2] at h; first | omega | exact absurd h (by decide)
          · rw [if_neg h2] at h; first | omega | exact absurd h (by decide)
      rw [if_pos hz] at hr
      exact kt r hr H locs ls hl hP hS
    · have hz : ¬ b < a := by
        by_cases h1 : b < a
        · rw [if_pos h1] at h; first | omega | exact absurd h (by decide) | exact absurd (by decide) h
        · rw [if_neg h1] at h
          by_cases h2 : a = b
          · rw [if_pos h2] at h; first | omega | exact absurd h (by decide) | exact absurd (by decide) h
          · rw [if_neg h2] at h; first | omega | exact absurd h (by decide) | exact absurd (by decide) h
      rw [if_neg hz] at hr
      exact kf r hr H locs ls hl hP hS
  · cases hr
theorem g_lcmp_le (hC : fCx p s m args c cl D aC tb ad A Ts cc own nL) {a b : Int} {off : Int} {dT dF : fOp} (tgt pc' : Nat) (hc : decode cc pc = .ok (.lcmp, 1)) (hd : decode cc (pc + 1) = .ok (.ifCond .le off, 3)) (ht : ((pc + 1 : Nat) : Int) + off = (tgt : Int)) (hp : pc + 4 = pc')
    (kt : GO p l e R s m args below meth c cl D aC tb ad A nL cells slots Qf tgt lv st M dT) (kf : GO p l e R s m args below meth c cl D aC tb ad A nL cells slots Qf pc' lv st M dF) : GO p l e R s m args below meth c cl D aC tb ad A nL cells slots Qf pc lv (.long (fL b) :: .long (fL a) :: st) M (fLtL b a dF dT) := by
  subst hp
  intro r hr H locs ls hl hP hS
  unfold fLtL at hr
  split at hr
  · rename_i hab
    have hcm := fCmp_eq (a := a) (b := b) hab.2 hab.1
    refine W.lcmp hC.1 hC.2.1 hc ?_
    rw [hcm]
    refine lv_if_le hC.1 hC.2.1 hd ht (fun h => ?_) (fun h => ?_)
    · have hz : ¬ b < a := by
        by_cases h1 : b < a
        · rw [if_pos h1] at h; first | omega | exact absurd h (by decide)
        · rw [if_neg h1] at h
          by_cases h2 : a = b
          · rw [if_pos h2] at h; first | omega | exact absurd h (by decide)
          · rw [if_neg h2] at h; first | omega | exact absurd h (by decide)
      rw [if_neg hz] at hr
      exact kt r hr H locs ls hl hP hS
    · have hz : b < a := by
        by_cases h1 : b < a
        · rw [if_pos h1] at h; first | omega | exact absurd h (by decide) | exact absurd (by decide) h
        · rw [if_neg h1] at h
          by_cases h2 : a = b
          · rw [if_pos h2] at h; first | omega | exact absurd h (by decide) | exact absurd (by decide) h
          · rw [if_neg h2] at h; first | omega | exact absurd h (by decide) | exact absurd (by decide) h
      rw [if_pos hz] at hr
      exact kf r hr H locs ls hl hP hS
  · cases hr
theorem g_iald (hC : fCx p s m args c cl D aC tb ad A Ts cc own nL) {q n : Nat} {xs : List (Nat × Nat)} {i : Int} {kd : Int → fOp} (pc' : Nat) (he : tb[q]? = some (0, n, xs)) (hn : n ≤ 2147483648) (hd : decode cc pc = .ok (.iaload, 1)) (hp : pc + 1 = pc')
    (k : ∀ x : Int, GO p l e R s m args below meth c cl D aC tb ad A nL cells slots Qf pc' lv (.int (fI x) :: st) M (kd x)) : GO p l e R s m args below meth c cl D aC tb ad A nL cells slots Qf pc lv (.int (fI i) :: .ref (ad q) :: st) M (fRd M q n i kd) := by
  subst hp
  intro r hr H locs ls hl hP hS
  unfold fRd at hr
  split at hr
  · rename_i h
    refine va_iald hC.1 hC.2.1 hC.2.2.2.2.2.1 hP q 0 (fW_get he) rfl (fI_in h hn) hd ?_
    rw [fI_clamp h hn]
    exact k _ r hr H locs ls hl hP hS
  · cases hr
theorem g_zald (hC : fCx p s m args c cl D aC tb ad A Ts cc own nL) {q n : Nat} {xs : List (Nat × Nat)} {i : Int} {kd : Int → fOp} (pc' : Nat) (he : tb[q]? = some (1, n, xs)) (hn : n ≤ 2147483648) (hd : decode cc pc = .ok (.baload, 1)) (hp : pc + 1 = pc')
    (k : ∀ x : Int, GO p l e R s m args below meth c cl D aC tb ad A nL cells slots Qf pc' lv (.int (fI x) :: st) M (kd x)) : GO p l e R s m args below meth c cl D aC tb ad A nL cells slots Qf pc lv (.int (fI i) :: .ref (ad q) :: st) M (fRd M q n i kd) := by
  subst hp
  intro r hr H locs ls hl hP hS
  unfold fRd at hr
  split at hr
  · rename_i h
    refine va_zald hC.1 hC.2.1 hC.2.2.2.2.2.1 hP q 1 (fW_get he) rfl (fI_in h hn) hd ?_
    rw [fI_clamp h hn]
    exact k _ r hr H locs ls hl hP hS
  · cases hr
theorem g_lald (hC : fCx p s m args c cl D aC tb ad A Ts cc own nL) {q n : Nat} {xs : List (Nat × Nat)} {i : Int} {kd : Int → fOp} (pc' : Nat) (he : tb[q]? = some (2, n, xs)) (hn : n ≤ 2147483648) (hd : decode cc pc = .ok (.laload, 1)) (hp : pc + 1 = pc')
    (k : ∀ x : Int, GO p l e R s m args below meth c cl D aC tb ad A nL cells slots Qf pc' lv (.long (fL x) :: st) M (kd x)) : GO p l e R s m args below meth c cl D aC tb ad A nL cells slots Qf pc lv (.int (fI i) :: .ref (ad q) :: st) M (fRd M q n i kd) := by
  subst hp
  intro r hr H locs ls hl hP hS
  unfold fRd at hr
  split at hr
  · rename_i h
    refine va_lald hC.1 hC.2.1 hC.2.2.2.2.2.1 hP q 2 (fW_get he) rfl (fI_in h hn) hd ?_
    rw [fI_clamp h hn]
    exact k _ r hr H locs ls hl hP hS
  · cases hr
theorem g_aald (hC : fCx p s m args c cl D aC tb ad A Ts cc own nL) {q kc : Nat} {qs : List (Nat × Nat)} {i : Int} {kd : Nat → fOp} {C : String} (n b t pc' : Nat) (he : tb[q]? = some (3, kc, qs)) (hT : (fTY aC)[kc]? = some (aC kc, .object C)) (hq : ∀ j, j < n → qs[j]? = some (2, b + t * j)) (hl0 : qs.length = n) (hn : n ≤ 2147483648) (hd : decode cc pc = .ok (.aaload, 1)) (hp : pc + 1 = pc')
    (k : ∀ P, (∃ j, j < n ∧ P = b + t * j) → GO p l e R s m args below meth c cl D aC tb ad A nL cells slots Qf pc' lv (.ref (ad P) :: st) M (kd P)) : GO p l e R s m args below meth c cl D aC tb ad A nL cells slots Qf pc lv (.int (fI i) :: .ref (ad q) :: st) M (fIx n b t i kd) := by
  subst hp
  intro r hr H locs ls hl hP hS
  unfold fIx at hr
  split at hr
  · rename_i h
    have h' : 0 ≤ i ∧ i < ((qs.length : Nat) : Int) := by rw [hl0]; exact h
    have hj : i.toNat < n := by omega
    refine va_aldq hC.1 hC.2.1 hC.2.2.2.2.2.1 hP q kc (fW_get he) hT (fI_in h' (by omega)) hd ?_
    rw [fI_clamp h' (by omega)]
    have e1 : va_rf (fRf ad (qs[i.toNat]?)) = .ref (ad (b + t * i.toNat)) := by rw [hq _ hj]; rfl
    rw [e1]
    exact k _ ⟨_, hj, rfl⟩ r hr H locs ls hl hP hS
  · cases hr
theorem g_rald (hC : fCx p s m args c cl D aC tb ad A Ts cc own nL) {q kc : Nat} {qs : List (Nat × Nat)} {i : Int} {kd : Nat → fOp} {ty : FieldType} (n b t pc' : Nat) (he : tb[q]? = some (3, kc, qs)) (hT : (fTY aC)[kc]? = some (aC kc, .array ty)) (hq : ∀ j, j < n → qs[j]? = some (2, b + t * j)) (hl0 : qs.length = n) (hn : n ≤ 2147483648) (hd : decode cc pc = .ok (.aaload, 1)) (hp : pc + 1 = pc')
    (k : ∀ P, (∃ j, j < n ∧ P = b + t * j) → GO p l e R s m args below meth c cl D aC tb ad A nL cells slots Qf pc' lv (.ref (ad P) :: st) M (kd P)) : GO p l e R s m args below meth c cl D aC tb ad A nL cells slots Qf pc lv (.int (fI i) :: .ref (ad q) :: st) M (fIx n b t i kd) := by
  subst hp
  intro r hr H locs ls hl hP hS
  unfold fIx at hr
  split at hr
  · rename_i h
    have h' : 0 ≤ i ∧ i < ((qs.length : Nat) : Int) := by rw [hl0]; exact h
    have hj : i.toNat < n := by omega
    have hin := fI_in h' (by omega)
    have hlt : (fI i).toNatClampNeg < qs.length := Nat.not_le.mp fun q => hin (Or.inr q)
    have e1 : va_rf (fRf ad (qs[(fI i).toNatClampNeg]?)) = .ref (ad (b + t * i.toNat)) := by rw [fI_clamp h' (by omega), hq _ hj]; rfl
    refine W.aald (v := .ref (ad (b + t * i.toNat))) (ty := .array ty) hC.1 hC.2.1 (hP q _ (fW_get he)) ((hC.2.2.2.2.2.1.2 kc _ hT).1 qs.length (fun j => va_rf (fRf ad (qs[j]?)))) rfl (fun q => by cases q) (by show ¬ (fI i < 0 ∨ (arrV _ _ _).slots.size ≤ _); rw [arrV_size]; exact hin) (by show (arrV _ _ _).slots[_]? = _; rw [arrV_read _ _ hlt, e1]) rfl rfl hd ?_
    exact k _ ⟨_, hj, rfl⟩ r hr H locs ls hl hP hS
  · cases hr
theorem g_iast (hC : fCx p s m args c cl D aC tb ad A Ts cc own nL) {q n : Nat} {xs : List (Nat × Nat)} {i v : Int} {kd : fMem → fOp} (pc' : Nat) (he : tb[q]? = some (0, n, xs)) (hn : n ≤ 2147483648) (hd : decode cc pc = .ok (.iastore, 1)) (hp : pc + 1 = pc')
    (k : ∀ M' : fMem, GO p l e R s m args below meth c cl D aC tb ad A nL cells slots Qf pc' lv st M' (kd M')) : GO p l e R s m args below meth c cl D aC tb ad A nL cells slots Qf pc lv (.int (fI v) :: .int (fI i) :: .ref (ad q) :: st) M (fWr M q n i v kd) := by
  subst hp
  intro r hr H locs ls hl hP hS
  unfold fWr at hr
  split at hr
  · rename_i h
    refine va_iast hC.1 hC.2.1 hC.2.2.2.2.2.1 hP (fW_D hC.2.2.2.2.2.2.1 hC.2.2.2.2.2.2.2.1) hS q 0 (fW_get he) rfl (fI_in h hn) hd (fun H1 locs1 hP1 _ hS1 => ?_)
    rw [fI_clamp h hn, fW_set (M' := fup M q i.toNat v) he ?_ (fun x hx => fup_off _ _ _ _ _ hx)] at hP1
    · exact k _ r hr H1 locs1 ls hl hP1 hS1
    · rw [fup_row]
      unfold fEnt
      dsimp only
      congr 4
      funext j
      unfold upd
      split <;> rfl
  · cases hr
theorem g_last (hC : fCx p s m args c cl D aC tb ad A Ts cc own nL) {q n : Nat} {xs : List (Nat × Nat)} {i v : Int} {kd : fMem → fOp} (pc' : Nat) (he : tb[q]? = some (2, n, xs)) (hn : n ≤ 2147483648) (hd : decode cc pc = .ok (.lastore, 1)) (hp : pc + 1 = pc')
    (k : ∀ M' : fMem, GO p l e R s m args below meth c cl D aC tb ad A nL cells slots Qf pc' lv st M' (kd M')) : GO p l e R s m args below meth c cl D aC tb ad A nL cells slots Qf pc lv (.long (fL v) :: .int (fI i) :: .ref (ad q) :: st) M (fWr M q n i v kd) := by
  subst hp
  intro r hr H locs ls hl hP hS
  unfold fWr at hr
  split at hr
  · rename_i h
    refine va_last hC.1 hC.2.1 hC.2.2.2.2.2.1 hP (fW_D hC.2.2.2.2.2.2.1 hC.2.2.2.2.2.2.2.1) hS q 2 (fW_get he) rfl (fI_in h hn) hd (fun H1 locs1 hP1 _ hS1 => ?_)
    rw [fI_clamp h hn, fW_set (M' := fup M q i.toNat v) he ?_ (fun x hx => fup_off _ _ _ _ _ hx)] at hP1
    · exact k _ r hr H1 locs1 ls hl hP1 hS1
    · rw [fup_row]
      unfold fEnt
      dsimp only
      congr 5
      funext j
      unfold vp_updL
      split <;> rfl
  · cases hr
theorem g_zast (hC : fCx p s m args c cl D aC tb ad A Ts cc own nL) {q n : Nat} {xs : List (Nat × Nat)} {i v : Int} {kd : fMem → fOp} (pc' : Nat) (he : tb[q]? = some (1, n, xs)) (hn : n ≤ 2147483648) (hd : decode cc pc = .ok (.bastore, 1)) (hp : pc + 1 = pc')
    (k : ∀ M' : fMem, GO p l e R s m args below meth c cl D aC tb ad A nL cells slots Qf pc' lv st M' (kd M')) : GO p l e R s m args below meth c cl D aC tb ad A nL cells slots Qf pc lv (.int (fI v) :: .int (fI i) :: .ref (ad q) :: st) M (fWz M q n i v kd) := by
  subst hp
  intro r hr H locs ls hl hP hS
  unfold fWz at hr
  split at hr
  · rename_i h
    refine va_zast hC.1 hC.2.1 hC.2.2.2.2.2.1 hP (fW_D hC.2.2.2.2.2.2.1 hC.2.2.2.2.2.2.2.1) hS q 1 (fW_get he) rfl (fI_in h.1 hn) hd (fun H1 locs1 hP1 _ hS1 => ?_)
    rw [fI_boolN h.2] at hP1
    rw [fI_clamp h.1 hn, fW_set (M' := fup M q i.toNat v) he ?_ (fun x hx => fup_off _ _ _ _ _ hx)] at hP1
    · exact k _ r hr H1 locs1 ls hl hP1 hS1
    · rw [fup_row]
      unfold fEnt
      dsimp only
      congr 4
      funext j
      unfold upd
      split <;> rfl
  · cases hr
theorem g_getI (hC : fCx p s m args c cl D aC tb ad A Ts cc own nL) {ref C : String} {T : u_T} {N ci index q z : Nat} {fs : List (Nat × Nat)} {kd : Int → fOp} (pc' : Nat) (hin : ∀ w ∈ u_ws C T N, w ∈ Ts) (hc : cl[ci]? = some (C, T, N)) (kf : Nat) (hk : kf < N) (hw : Cond.fieldLink own index ref (T kf).2.1 (T kf).2.2.1 ∈ Ts) (hs : (T kf).1 = ref) (he : tb[q]? = some (4, ci, fs)) (hf : fs[kf]? = some (0, z)) (hd : decode cc pc = .ok (.getfield index, 3)) (hp : pc + 3 = pc')
    (k : ∀ x : Int, GO p l e R s m args below meth c cl D aC tb ad A nL cells slots Qf pc' lv (.int (fI x) :: st) M (kd x)) : GO p l e R s m args below meth c cl D aC tb ad A nL cells slots Qf pc lv (.ref (ad q) :: st) M (fGt M q kf kd) := by
  subst hp
  intro r hr H locs ls hl hP hS
  exact va_get hC.1 hC.2.1 hC.2.2.2.2.1 hin hC.2.2.2.1 hC.2.2.2.2.2.1 hP q (fW_get he) hc kf hk (hC.2.2.2.2.1 _ hw) (fun x h => by rw [← hs]; exact h) (by rw [List.getElem?_mapIdx, hf]; rfl) hd (k _ r hr H locs ls hl hP hS)
theorem g_getJ (hC : fCx p s m args c cl D aC tb ad A Ts cc own nL) {ref C : String} {T : u_T} {N ci index q z : Nat} {fs : List (Nat × Nat)} {kd : Int → fOp} (pc' : Nat) (hin : ∀ w ∈ u_ws C T N, w ∈ Ts) (hc : cl[ci]? = some (C, T, N)) (kf : Nat) (hk : kf < N) (hw : Cond.fieldLink own index ref (T kf).2.1 (T kf).2.2.1 ∈ Ts) (hs : (T kf).1 = ref) (he : tb[q]? = some (4, ci, fs)) (hf : fs[kf]? = some (1, z)) (hd : decode cc pc = .ok (.getfield index, 3)) (hp : pc + 3 = pc')
    (k : ∀ x : Int, GO p l e R s m args below meth c cl D aC tb ad A nL cells slots Qf pc' lv (.long (fL x) :: st) M (kd x)) : GO p l e R s m args below meth c cl D aC tb ad A nL cells slots Qf pc lv (.ref (ad q) :: st) M (fGt M q kf kd) := by
  subst hp
  intro r hr H locs ls hl hP hS
  exact va_get hC.1 hC.2.1 hC.2.2.2.2.1 hin hC.2.2.2.1 hC.2.2.2.2.2.1 hP q (fW_get he) hc kf hk (hC.2.2.2.2.1 _ hw) (fun x h => by rw [← hs]; exact h) (by rw [List.getElem?_mapIdx, hf]; rfl) hd (k _ r hr H locs ls hl hP hS)
theorem g_getA (hC : fCx p s m args c cl D aC tb ad A Ts cc own nL) {ref C : String} {T : u_T} {N ci index q z : Nat} {fs : List (Nat × Nat)} (pc' : Nat) (hin : ∀ w ∈ u_ws C T N, w ∈ Ts) (hc : cl[ci]? = some (C, T, N)) (kf : Nat) (hk : kf < N) (hw : Cond.fieldLink own index ref (T kf).2.1 (T kf).2.2.1 ∈ Ts) (hs : (T kf).1 = ref) (he : tb[q]? = some (4, ci, fs)) (hf : fs[kf]? = some (2, z)) (hd : decode cc pc = .ok (.getfield index, 3)) (hp : pc + 3 = pc')
    (k : GO p l e R s m args below meth c cl D aC tb ad A nL cells slots Qf pc' lv (.ref (ad z) :: st) M d) : GO p l e R s m args below meth c cl D aC tb ad A nL cells slots Qf pc lv (.ref (ad q) :: st) M d := by
  subst hp
  intro r hr H locs ls hl hP hS
  exact va_get hC.1 hC.2.1 hC.2.2.2.2.1 hin hC.2.2.2.1 hC.2.2.2.2.2.1 hP q (fW_get he) hc kf hk (hC.2.2.2.2.1 _ hw) (fun x h => by rw [← hs]; exact h) (by rw [List.getElem?_mapIdx, hf]; rfl) hd (k r hr H locs ls hl hP hS)
theorem g_putI (hC : fCx p s m args c cl D aC tb ad A Ts cc own nL) {ref C : String} {T : u_T} {N ci index q z : Nat} {fs : List (Nat × Nat)} {v : Int} {kd : fMem → fOp} (pc' : Nat) (ty0 : Nat → FieldType) (hty : ∀ k, k < N → parseFieldDescriptor (T k).2.2.1 = some (ty0 k)) (hnm : ∀ a, a < N → ∀ b, b < N → a ≠ b → (T a).2.1 ≠ (T b).2.1) (hin : ∀ w ∈ u_ws C T N, w ∈ Ts) (hc : cl[ci]? = some (C, T, N)) (kf : Nat) (hk : kf < N) (hw : Cond.fieldLink own index ref (T kf).2.1 (T kf).2.2.1 ∈ Ts) (hs : (T kf).1 = ref) (hfin : (T kf).2.2.2 = false) (hpt : parseFieldDescriptor (T kf).2.2.1 = some .int) (he : tb[q]? = some (4, ci, fs)) (hf : fs[kf]? = some (0, z)) (hd : decode cc pc = .ok (.putfield index, 3)) (hp : pc + 3 = pc')
    (k : ∀ M' : fMem, GO p l e R s m args below meth c cl D aC tb ad A nL cells slots Qf pc' lv st M' (kd M')) : GO p l e R s m args below meth c cl D aC tb ad A nL cells slots Qf pc lv (.int (fI v) :: .ref (ad q) :: st) M (fPt M q kf v kd) := by
  subst hp
  intro r hr H locs ls hl hP hS
  have hlt : kf < fs.length := (List.getElem?_eq_some_iff.mp hf).1
  refine va_put hC.1 hC.2.1 hC.2.2.2.2.1 hin ty0 hty hnm hC.2.2.2.1 hC.2.2.2.2.2.1 hP (fW_D hC.2.2.2.2.2.2.1 hC.2.2.2.2.2.2.2.1) hS q (fW_get he) hc kf hk (hC.2.2.2.2.1 _ hw) (fun x h => by rw [← hs]; exact h) hfin hpt rfl rfl (by simpa using hlt) hd (fun H1 locs1 hP1 _ hS1 => ?_)
  rw [fW_set (M' := fup M q kf v) he ?_ (fun x hx => fup_off _ _ _ _ _ hx)] at hP1
  · exact k _ r hr H1 locs1 ls hl hP1 hS1
  · exact (fEnt_put hf rfl).symm
theorem g_putJ (hC : fCx p s m args c cl D aC tb ad A Ts cc own nL) {ref C : String} {T : u_T} {N ci index q z : Nat} {fs : List (Nat × Nat)} {v : Int} {kd : fMem → fOp} (pc' : Nat) (ty0 : Nat → FieldType) (hty : ∀ k, k < N → parseFieldDescriptor (T k).2.2.1 = some (ty0 k)) (hnm : ∀ a, a < N → ∀ b, b < N → a ≠ b → (T a).2.1 ≠ (T b).2.1) (hin : ∀ w ∈ u_ws C T N, w ∈ Ts) (hc : cl[ci]? = some (C, T, N)) (kf : Nat) (hk : kf < N) (hw : Cond.fieldLink own index ref (T kf).2.1 (T kf).2.2.1 ∈ Ts) (hs : (T kf).1 = ref) (hfin : (T kf).2.2.2 = false) (hpt : parseFieldDescriptor (T kf).2.2.1 = some .long) (he : tb[q]? = some (4, ci, fs)) (hf : fs[kf]? = some (1, z)) (hd : decode cc pc = .ok (.putfield index, 3)) (hp : pc + 3 = pc')
    (k : ∀ M' : fMem, GO p l e R s m args below meth c cl D aC tb ad A nL cells slots Qf pc' lv st M' (kd M')) : GO p l e R s m args below meth c cl D aC tb ad A nL cells slots Qf pc lv (.long (fL v) :: .ref (ad q) :: st) M (fPt M q kf v kd) := by
  subst hp
  intro r hr H locs ls hl hP hS
  have hlt : kf < fs.length := (List.getElem?_eq_some_iff.mp hf).1
  refine va_put hC.1 hC.2.1 hC.2.2.2.2.1 hin ty0 hty hnm hC.2.2.2.1 hC.2.2.2.2.2.1 hP (fW_D hC.2.2.2.2.2.2.1 hC.2.2.2.2.2.2.2.1) hS q (fW_get he) hc kf hk (hC.2.2.2.2.1 _ hw) (fun x h => by rw [← hs]; exact h) hfin hpt rfl rfl (by simpa using hlt) hd (fun H1 locs1 hP1 _ hS1 => ?_)
  rw [fW_set (M' := fup M q kf v) he ?_ (fun x hx => fup_off _ _ _ _ _ hx)] at hP1
  · exact k _ r hr H1 locs1 ls hl hP1 hS1
  · exact (fEnt_put hf rfl).symm
theorem g_putZ (hC : fCx p s m args c cl D aC tb ad A Ts cc own nL) {ref C : String} {T : u_T} {N ci index q z : Nat} {fs : List (Nat × Nat)} {v : Int} {kd : fMem → fOp} (pc' : Nat) (ty0 : Nat → FieldType) (hty : ∀ k, k < N → parseFieldDescriptor (T k).2.2.1 = some (ty0 k)) (hnm : ∀ a, a < N → ∀ b, b < N → a ≠ b → (T a).2.1 ≠ (T b).2.1) (hin : ∀ w ∈ u_ws C T N, w ∈ Ts) (hc : cl[ci]? = some (C, T, N)) (kf : Nat) (hk : kf < N) (hw : Cond.fieldLink own index ref (T kf).2.1 (T kf).2.2.1 ∈ Ts) (hs : (T kf).1 = ref) (hfin : (T kf).2.2.2 = false) (hpt : parseFieldDescriptor (T kf).2.2.1 = some .boolean) (he : tb[q]? = some (4, ci, fs)) (hf : fs[kf]? = some (0, z)) (hd : decode cc pc = .ok (.putfield index, 3)) (hp : pc + 3 = pc')
    (k : ∀ M' : fMem, GO p l e R s m args below meth c cl D aC tb ad A nL cells slots Qf pc' lv st M' (kd M')) : GO p l e R s m args below meth c cl D aC tb ad A nL cells slots Qf pc lv (.int (fI v) :: .ref (ad q) :: st) M (fPz M q kf v kd) := by
  subst hp
  intro r hr H locs ls hl hP hS
  have hlt : kf < fs.length := (List.getElem?_eq_some_iff.mp hf).1
  unfold fPz at hr
  split at hr
  · rename_i h
    refine va_put hC.1 hC.2.1 hC.2.2.2.2.1 hin ty0 hty hnm hC.2.2.2.1 hC.2.2.2.2.2.1 hP (fW_D hC.2.2.2.2.2.2.1 hC.2.2.2.2.2.2.2.1) hS q (fW_get he) hc kf hk (hC.2.2.2.2.1 _ hw) (fun x h => by rw [← hs]; exact h) hfin hpt (fI_bool h) (fI_boolF h) (by simpa using hlt) hd (fun H1 locs1 hP1 _ hS1 => ?_)
    rw [fW_set (M' := fup M q kf v) he ?_ (fun x hx => fup_off _ _ _ _ _ hx)] at hP1
    · exact k _ r hr H1 locs1 ls hl hP1 hS1
    · exact (fEnt_put hf rfl).symm
  · cases hr
theorem g_getIN (hC : fCx p s m args c cl D aC tb ad A Ts cc own nL) {ref C : String} {host : String} {T : u_T} {N ci index q z : Nat} {fs : List (Nat × Nat)} {kd : Int → fOp} (pc' : Nat) (hin : ∀ w ∈ u_ws C T N, w ∈ Ts) (hc : cl[ci]? = some (C, T, N)) (kf : Nat) (hk : kf < N) (hw : Cond.fieldLinkNest own index ref (T kf).2.1 (T kf).2.2.1 host ∈ lw_tbl) (hs : (T kf).1 = ref) (he : tb[q]? = some (4, ci, fs)) (hf : fs[kf]? = some (0, z)) (hd : decode cc pc = .ok (.getfield index, 3)) (hp : pc + 3 = pc')
    (k : ∀ x : Int, GO p l e R s m args below meth c cl D aC tb ad A nL cells slots Qf pc' lv (.int (fI x) :: st) M (kd x)) : GO p l e R s m args below meth c cl D aC tb ad A nL cells slots Qf pc lv (.ref (ad q) :: st) M (fGt M q kf kd) := by
  subst hp
  intro r hr H locs ls hl hP hS
  exact va_getN hC.1 hC.2.1 hC.2.2.2.2.1 hin hC.2.2.2.1 hC.2.2.2.2.2.1 hP q (fW_get he) hc kf hk (va_Nw.use rfl (hC.2.2.2.2.2.2.2.2 _ hw rfl)) (fun x h => by rw [← hs]; exact h) (by rw [List.getElem?_mapIdx, hf]; rfl) hd (k _ r hr H locs ls hl hP hS)
theorem g_getJN (hC : fCx p s m args c cl D aC tb ad A Ts cc own nL) {ref C : String} {host : String} {T : u_T} {N ci index q z : Nat} {fs : List (Nat × Nat)} {kd : Int → fOp} (pc' : Nat) (hin : ∀ w ∈ u_ws C T N, w ∈ Ts) (hc : cl[ci]? = some (C, T, N)) (kf : Nat) (hk : kf < N) (hw : Cond.fieldLinkNest own index ref (T kf).2.1 (T kf).2.2.1 host ∈ lw_tbl) (hs : (T kf).1 = ref) (he : tb[q]? = some (4, ci, fs)) (hf : fs[kf]? = some (1, z)) (hd : decode cc pc = .ok (.getfield index, 3)) (hp : pc + 3 = pc')
    (k : ∀ x : Int, GO p l e R s m args below meth c cl D aC tb ad A nL cells slots Qf pc' lv (.long (fL x) :: st) M (kd x)) : GO p l e R s m args below meth c cl D aC tb ad A nL cells slots Qf pc lv (.ref (ad q) :: st) M (fGt M q kf kd) := by
  subst hp
  intro r hr H locs ls hl hP hS
  exact va_getN hC.1 hC.2.1 hC.2.2.2.2.1 hin hC.2.2.2.1 hC.2.2.2.2.2.1 hP q (fW_get he) hc kf hk (va_Nw.use rfl (hC.2.2.2.2.2.2.2.2 _ hw rfl)) (fun x h => by rw [← hs]; exact h) (by rw [List.getElem?_mapIdx, hf]; rfl) hd (k _ r hr H locs ls hl hP hS)
theorem g_getAN (hC : fCx p s m args c cl D aC tb ad A Ts cc own nL) {ref C : String} {host : String} {T : u_T} {N ci index q z : Nat} {fs : List (Nat × Nat)} (pc' : Nat) (hin : ∀ w ∈ u_ws C T N, w ∈ Ts) (hc : cl[ci]? = some (C, T, N)) (kf : Nat) (hk : kf < N) (hw : Cond.fieldLinkNest own index ref (T kf).2.1 (T kf).2.2.1 host ∈ lw_tbl) (hs : (T kf).1 = ref) (he : tb[q]? = some (4, ci, fs)) (hf : fs[kf]? = some (2, z)) (hd : decode cc pc = .ok (.getfield index, 3)) (hp : pc + 3 = pc')
    (k : GO p l e R s m args below meth c cl D aC tb ad A nL cells slots Qf pc' lv (.ref (ad z) :: st) M d) : GO p l e R s m args below meth c cl D aC tb ad A nL cells slots Qf pc lv (.ref (ad q) :: st) M d := by
  subst hp
  intro r hr H locs ls hl hP hS
  exact va_getN hC.1 hC.2.1 hC.2.2.2.2.1 hin hC.2.2.2.1 hC.2.2.2.2.2.1 hP q (fW_get he) hc kf hk (va_Nw.use rfl (hC.2.2.2.2.2.2.2.2 _ hw rfl)) (fun x h => by rw [← hs]; exact h) (by rw [List.getElem?_mapIdx, hf]; rfl) hd (k r hr H locs ls hl hP hS)
theorem g_putIN (hC : fCx p s m args c cl D aC tb ad A Ts cc own nL) {ref C : String} {host : String} {T : u_T} {N ci index q z : Nat} {fs : List (Nat × Nat)} {v : Int} {kd : fMem → fOp} (pc' : Nat) (ty0 : Nat → FieldType) (hty : ∀ k, k < N → parseFieldDescriptor (T k).2.2.1 = some (ty0 k)) (hnm : ∀ a, a < N → ∀ b, b < N → a ≠ b → (T a).2.1 ≠ (T b).2.1) (hin : ∀ w ∈ u_ws C T N, w ∈ Ts) (hc : cl[ci]? = some (C, T, N)) (kf : Nat) (hk : kf < N) (hw : Cond.fieldLinkNest own index ref (T kf).2.1 (T kf).2.2.1 host ∈ lw_tbl) (hs : (T kf).1 = ref) (hfin : (T kf).2.2.2 = false) (hpt : parseFieldDescriptor (T kf).2.2.1 = some .int) (he : tb[q]? = some (4, ci, fs)) (hf : fs[kf]? = some (0, z)) (hd : decode cc pc = .ok (.putfield index, 3)) (hp : pc + 3 = pc')
    (k : ∀ M' : fMem, GO p l e R s m args below meth c cl D aC tb ad A nL cells slots Qf pc' lv st M' (kd M')) : GO p l e R s m args below meth c cl D aC tb ad A nL cells slots Qf pc lv (.int (fI v) :: .ref (ad q) :: st) M (fPt M q kf v kd) := by
  subst hp
  intro r hr H locs ls hl hP hS
  have hlt : kf < fs.length := (List.getElem?_eq_some_iff.mp hf).1
  refine va_putN hC.1 hC.2.1 hC.2.2.2.2.1 hin ty0 hty hnm hC.2.2.2.1 hC.2.2.2.2.2.1 hP (fW_D hC.2.2.2.2.2.2.1 hC.2.2.2.2.2.2.2.1) hS q (fW_get he) hc kf hk (va_Nw.use rfl (hC.2.2.2.2.2.2.2.2 _ hw rfl)) (fun x h => by rw [← hs]; exact h) hfin hpt rfl rfl (by simpa using hlt) hd (fun H1 locs1 hP1 _ hS1 => ?_)
  rw [fW_set (M' := fup M q kf v) he ?_ (fun x hx => fup_off _ _ _ _ _ hx)] at hP1
  · exact k _ r hr H1 locs1 ls hl hP1 hS1
  · exact (fEnt_put hf rfl).symm
theorem g_putJN (hC : fCx p s m args c cl D aC tb ad A Ts cc own nL) {ref C : String} {host : String} {T : u_T} {N ci index q z : Nat} {fs : List (Nat × Nat)} {v : Int} {kd : fMem → fOp} (pc' : Nat) (ty0 : Nat → FieldType) (hty : ∀ k, k < N → parseFieldDescriptor (T k).2.2.1 = some (ty0 k)) (hnm : ∀ a, a < N → ∀ b, b < N → a ≠ b → (T a).2.1 ≠ (T b).2.1) (hin : ∀ w ∈ u_ws C T N, w ∈ Ts) (hc : cl[ci]? = some (C, T, N)) (kf : Nat) (hk : kf < N) (hw : Cond.fieldLinkNest own index ref (T kf).2.1 (T kf).2.2.1 host ∈ lw_tbl) (hs : (T kf).1 = ref) (hfin : (T kf).2.2.2 = false) (hpt : parseFieldDescriptor (T kf).2.2.1 = some .long) (he : tb[q]? = some (4, ci, fs)) (hf : fs[kf]? = some (1, z)) (hd : decode cc pc = .ok (.putfield index, 3)) (hp : pc + 3 = pc')
    (k : ∀ M' : fMem, GO p l e R s m args below meth c cl D aC tb ad A nL cells slots Qf pc' lv st M' (kd M')) : GO p l e R s m args below meth c cl D aC tb ad A nL cells slots Qf pc lv (.long (fL v) :: .ref (ad q) :: st) M (fPt M q kf v kd) := by
  subst hp
  intro r hr H locs ls hl hP hS
  have hlt : kf < fs.length := (List.getElem?_eq_some_iff.mp hf).1
  refine va_putN hC.1 hC.2.1 hC.2.2.2.2.1 hin ty0 hty hnm hC.2.2.2.1 hC.2.2.2.2.2.1 hP (fW_D hC.2.2.2.2.2.2.1 hC.2.2.2.2.2.2.2.1) hS q (fW_get he) hc kf hk (va_Nw.use rfl (hC.2.2.2.2.2.2.2.2 _ hw rfl)) (fun x h => by rw [← hs]; exact h) hfin hpt rfl rfl (by simpa using hlt) hd (fun H1 locs1 hP1 _ hS1 => ?_)
  rw [fW_set (M' := fup M q kf v) he ?_ (fun x hx => fup_off _ _ _ _ _ hx)] at hP1
  · exact k _ r hr H1 locs1 ls hl hP1 hS1
  · exact (fEnt_put hf rfl).symm
theorem g_putZN (hC : fCx p s m args c cl D aC tb ad A Ts cc own nL) {ref C : String} {host : String} {T : u_T} {N ci index q z : Nat} {fs : List (Nat × Nat)} {v : Int} {kd : fMem → fOp} (pc' : Nat) (ty0 : Nat → FieldType) (hty : ∀ k, k < N → parseFieldDescriptor (T k).2.2.1 = some (ty0 k)) (hnm : ∀ a, a < N → ∀ b, b < N → a ≠ b → (T a).2.1 ≠ (T b).2.1) (hin : ∀ w ∈ u_ws C T N, w ∈ Ts) (hc : cl[ci]? = some (C, T, N)) (kf : Nat) (hk : kf < N) (hw : Cond.fieldLinkNest own index ref (T kf).2.1 (T kf).2.2.1 host ∈ lw_tbl) (hs : (T kf).1 = ref) (hfin : (T kf).2.2.2 = false) (hpt : parseFieldDescriptor (T kf).2.2.1 = some .boolean) (he : tb[q]? = some (4, ci, fs)) (hf : fs[kf]? = some (0, z)) (hd : decode cc pc = .ok (.putfield index, 3)) (hp : pc + 3 = pc')
    (k : ∀ M' : fMem, GO p l e R s m args below meth c cl D aC tb ad A nL cells slots Qf pc' lv st M' (kd M')) : GO p l e R s m args below meth c cl D aC tb ad A nL cells slots Qf pc lv (.int (fI v) :: .ref (ad q) :: st) M (fPz M q kf v kd) := by
  subst hp
  intro r hr H locs ls hl hP hS
  have hlt : kf < fs.length := (List.getElem?_eq_some_iff.mp hf).1
  unfold fPz at hr
  split at hr
  · rename_i h
    refine va_putN hC.1 hC.2.1 hC.2.2.2.2.1 hin ty0 hty hnm hC.2.2.2.1 hC.2.2.2.2.2.1 hP (fW_D hC.2.2.2.2.2.2.1 hC.2.2.2.2.2.2.2.1) hS q (fW_get he) hc kf hk (va_Nw.use rfl (hC.2.2.2.2.2.2.2.2 _ hw rfl)) (fun x h => by rw [← hs]; exact h) hfin hpt (fI_bool h) (fI_boolF h) (by simpa using hlt) hd (fun H1 locs1 hP1 _ hS1 => ?_)
    rw [fW_set (M' := fup M q kf v) he ?_ (fun x hx => fup_off _ _ _ _ _ hx)] at hP1
    · exact k _ r hr H1 locs1 ls hl hP1 hS1
    · exact (fEnt_put hf rfl).symm
  · cases hr
theorem g_ck {v : Int} {kd : Nat → fOp} (k : ∀ P : Nat, (47 ≤ P ∧ P < 59) → GO p l e R s m args below meth c cl D aC tb ad A nL cells slots Qf pc lv (.ref (ad P) :: st) M (kd P)) : GO p l e R s m args below meth c cl D aC tb ad A nL cells slots Qf pc lv (.ref (ad v.toNat) :: st) M (fCk v kd) := by
  intro r hr H locs ls hl hP hS
  unfold fCk at hr
  split at hr
  · rename_i h
    exact k _ h r hr H locs ls hl hP hS
  · cases hr
theorem g_lshr (hC : fCx p s m args c cl D aC tb ad A Ts cc own nL) {a n : Int} {kd : Int → fOp} (pc' : Nat) (hd : decode cc pc = .ok (.lshr, 1)) (hp : pc + 1 = pc')
    (k : ∀ x : Int, GO p l e R s m args below meth c cl D aC tb ad A nL cells slots Qf pc' lv (.long (fL x) :: st) M (kd x)) : GO p l e R s m args below meth c cl D aC tb ad A nL cells slots Qf pc lv (.int (fI n) :: .long (fL a) :: st) M (fSh a n kd) := by
  subst hp
  intro r hr H locs ls hl hP hS
  unfold fSh at hr
  split at hr
  · rename_i h
    exact lv_lshr hC.1 hC.2.1 hd (fL_shr h.1 h.2) (k _ r hr H locs ls hl hP hS)
  · cases hr
theorem g_land31 (hC : fCx p s m args c cl D aC tb ad A Ts cc own nL) {a : Int} {kd : Int → fOp} (pc' : Nat) (hd : decode cc pc = .ok (.land, 1)) (hp : pc + 1 = pc')
    (k : ∀ x : Int, GO p l e R s m args below meth c cl D aC tb ad A nL cells slots Qf pc' lv (.long (fL x) :: st) M (kd x)) : GO p l e R s m args below meth c cl D aC tb ad A nL cells slots Qf pc lv (.long (fL 31) :: .long (fL a) :: st) M (fA31 a kd) := by
  subst hp
  intro r hr H locs ls hl hP hS
  unfold fA31 at hr
  split at hr
  · rename_i h
    exact lv_land hC.1 hC.2.1 hd (by rw [fL_and31 h]; exact k _ r hr H locs ls hl hP hS)
  · cases hr
end FW
/-! contracts -/
def fOk (cl : List vw_C) (D : va_G) (aC : Nat → ClassId) (ad : Nat → Nat) (tb : List fEn) (M : fMem) (U : State) : Prop := va_P D cl (fW aC ad tb M) U.heap ∧ va_K D cl (fTY aC) U ∧ fInj ad tb.length ∧ fNw U
def fFr (ad : Nat → Nat) (tb : List fEn) : Nat → Prop := fun q => ∃ i, i < tb.length ∧ ad i = q
def fRv (rk : Nat) (ad : Nat → Nat) (a : Int) : Option Value := match rk with
  | 0 => some (.int (fI a))
  | 1 => some (.long (fL a))
  | 2 => none
  | _ => some (.ref (ad a.toNat))
def fQ (cl : List vw_C) (D : va_G) (aC : Nat → ClassId) (ad : Nat → Nat) (tb : List fEn) (rk : Nat) (r : Int × fMem) : Array Value → State → Outcome → State → Prop := fun _ st oc t => oc = .returned (fRv rk ad r.1) ∧ va_P D cl (fW aC ad tb r.2) t.heap ∧ va_F (fFr ad tb) st t
def fRm (fr lo : Nat) : Room := { frames := fr, cells := 0, slots := 0, locals := lo }
def fMt (l : Launch) (cl : List vw_C) (tb : List fEn) (y : MethodName) (cc : ByteArray) (mL : Nat) (rt : Option FieldType) (fr lo rk : Nat) (av : (Nat → Nat) → List Value) (M : fMem) (d : fOp) : Prop :=
  ∀ (D : va_G) (aC : Nat → ClassId) (ad : Nat → Nat) (r : Int × fMem), d = some r → Met l y (.code y cc mL rt :: goodTs) (fRm fr lo) (va_Pc (av ad) (fOk cl D aC ad tb M)) (fQ cl D aC ad tb rk r) 0 0 (fFr ad tb)
theorem fOk.blind {av : List Value} {cl : List vw_C} {D : va_G} {aC : Nat → ClassId} {ad : Nat → Nat} {tb : List fEn} {M : fMem} : FrameBlind (va_Pc av (fOk cl D aC ad tb M)) := by
  intro a U g mk h
  obtain ⟨e1, hP, hK, hi, hn⟩ := h
  exact ⟨e1, hP, va_K.moved (u := U) (U := U.calling g mk a) (Vm.Alike.refl U.vm) hK, hi, fNw.same (u := U) (U := U.calling g mk a) rfl hn⟩
theorem fMt.of {l : Launch} {cl : List vw_C} {tb : List fEn} {y : MethodName} {cc : ByteArray} {mL : Nat} {rt : Option FieldType} {fr lo rk : Nat} {av : (Nat → Nat) → List Value} {M : fMem} {d : fOp} (hy : plainName y.cls = true) (hlen : ∀ ad, (lg_sl (av ad)).length ≤ mL)
    (body : ∀ (p : Program) (e : Env) (s : State) (m : MethodId) (args : Array Value) (below : List Frame) (meth : Method) (c : Code) (D : va_G) (aC : Nat → ClassId) (ad : Nat → Nat), fCx p s m args c cl D aC tb ad (fFr ad tb) goodTs cc y.cls mL → meth.sig.returnType = rt → meth.locks = false →
      GO p l e (fRm fr lo) s m args below meth c cl D aC tb ad (fFr ad tb) mL 0 0 (fun r => MQ below (fQ cl D aC ad tb rk r) args s 0 0 (fFr ad tb)) 0 (lv_args 0 (av ad)) [] M d) : fMt l cl tb y cc mL rt fr lo rk av M d := by
  intro D aC ad r hr
  refine Met.ofW (cc := cc) (maxL := mL) (ret := rt) hy rfl ?_
  intro p e s m args below meth c s₁ B hml hv
  obtain ⟨rfl, hP, hK, hi, hn⟩ := hv
  have hts : ∀ w ∈ goodTs, w.before _ s = true := fun w hw => atoms_spec (ws := .code y cc mL rt :: goodTs) B.pre w (List.mem_cons_of_mem _ hw)
  rw [lg_entry_eq]
  exact body p e s m _ below meth c D aC ad ⟨B.exec, B.bytes, hml, findClass_of_methodNamed B.named, hts, hK, hi, fun i h => ⟨i, h, rfl⟩, hn⟩ B.returns B.notSynchronized r hr s.heap [] _ (lv_entry (av ad) (hlen ad)) hP va_S.rf
section FC
variable {p : Program} {l : Launch} {e : Env} {R : Room} {s : State} {m : MethodId} {args : Array Value} {below : List Frame} {meth : Method} {c : Code} {cl : List vw_C} {D : va_G} {aC : Nat → ClassId} {tb : List fEn} {ad : Nat → Nat} {A : Nat → Prop} {nL cells slots : Nat} {Qf : Int × fMem → State → Prop}
variable {cc : ByteArray} {own : String} {pc : Nat} {lv : List (Nat × Value)} {st stk : List Value} {M : fMem} {d : fOp}
theorem g_run (hC : fCx p s m args c cl D aC tb ad A goodTs cc own nL) {rk : Nat} {a : Array Value} {d' : fOp} {kd : Int → fMem → fOp} (pc' : Nat) (hp : pc + 3 = pc')
    (hr : ∀ r', d' = some r' → ∀ (H : Heap) (locs : List Loc) (ls : Array Slot), lv_has ls nL lv → va_P D cl (fW aC ad tb M) H → va_S A s.heap H locs → va_Run p l e R s m args below meth c H locs cells slots 0 0 (F0 m pc ls stk) st (fQ cl D aC ad tb rk r' a) (fFr ad tb))
    (st' : Int → List Value) (hst : ∀ v, (fRv rk ad v).toList ++ st = st' v)
    (k : ∀ (v : Int) (M1 : fMem), GO p l e R s m args below meth c cl D aC tb ad A nL cells slots Qf pc' lv (st' v) M1 (kd v M1)) : GO p l e R s m args below meth c cl D aC tb ad A nL cells slots Qf pc lv stk M (fCl d' kd) := by
  subst hp
  intro r hr0 H locs ls hl hP hS
  cases hd' : d' with
  | none => rw [hd'] at hr0; cases hr0
  | some r' =>
    obtain ⟨v, M1⟩ := r'
    rw [hd'] at hr0
    have hrun := hr _ hd' H locs ls hl hP hS
    intro T hT X
    obtain ⟨v', st₀, t, T', L, h0, X', hL, e1, e2, ⟨hv, hP1, hz, hk⟩, stp⟩ := hrun T hT X
    have hv' : v' = fRv rk ad v := by injection hv
    subst hv'
    rw [h0] at hz hk
    have hfr : ∀ q, fFr ad tb q → A q := by
      rintro q ⟨i, hi, rfl⟩
      exact hC.2.2.2.2.2.2.2.1 i hi
    have hS1 : va_S A s.heap T'.heap (locs ++ L) := ⟨Nat.le_trans hS.1 (by rw [e1]; exact hz), fun q h1 h2 => by rw [e1, hk q (Nat.lt_of_lt_of_le h1 hS.1) (fun z => h2 (hfr q z))]; exact hS.2.1 q h1 h2, fun q hq => by
      rcases List.mem_append.mp hq with h | h
      · exact hS.2.2 q h
      · exact hfr _ (hL q h)⟩
    obtain ⟨t2, a1, b1⟩ := k v M1 r hr0 T'.heap (locs ++ L) ls hl (by rw [e1]; exact hP1) hS1 T' rfl X'
    rw [← hst v] at a1
    exact ⟨t2, stp t2 a1, b1⟩
theorem g_cV (hC : fCx p s m args c cl D aC tb ad A goodTs cc own nL) {y : MethodName} {bytes : ByteArray} {mLc fr lo rk index : Nat} {rt : Option FieldType} {av : (Nat → Nat) → List Value} {d' : fOp} {kd : Int → fMem → fOp} {C : String} {T : u_T} {N ci q : Nat} {fs : List (Nat × Nat)} (pc' n : Nat) (As st : List Value) (hM : fMt l cl tb y bytes mLc rt fr lo rk av M d') (hav : av ad = .ref (ad q) :: As) (hs : stk = As.reverse ++ .ref (ad q) :: st) (he : tb[q]? = some (4, ci, fs)) (hc : cl[ci]? = some (C, T, N)) (hw : Cond.methodLink own index y ∈ goodTs) (hcode : Cond.code y bytes mLc rt ∈ goodTs) (hini : Cond.initialized y.cls ∈ goodTs) (hi : Cond.instanceMethod y ∈ goodTs) (hse : Cond.selects C y y ∈ goodTs) (hdd : y.cls ≠ "java/lang/invoke/MethodHandle" ∧ y.cls ≠ "java/lang/invoke/VarHandle" ∧ (parseMethodDescriptor y.desc).map (fun d => d.parameters.length) = some n) (hn : As.length = n) (hR : fr + 1 ≤ R.frames ∧ 8 + (mLc + 11) + lo ≤ R.locals) (hst8 : (st.map fun v => v.category).sum ≤ 8) (hcs : cells ≤ R.cells ∧ slots ≤ R.slots) (hd : decode cc pc = .ok (.invokevirtual index, 3)) (hp : pc + 3 = pc')
    (st' : Int → List Value) (hst : ∀ v, (fRv rk ad v).toList ++ st = st' v)
    (k : ∀ (v : Int) (M1 : fMem), GO p l e R s m args below meth c cl D aC tb ad A nL cells slots Qf pc' lv (st' v) M1 (kd v M1)) : GO p l e R s m args below meth c cl D aC tb ad A nL cells slots Qf pc lv stk M (fCl d' kd) := by
  refine g_run (rk := rk) (a := (Value.ref (ad q) :: As).toArray) hC pc' hp (fun r' hr' H locs ls hl hP hS => ?_) st' hst k
  exact va_runV (Ts := goodTs) ⟨hC.1, hC.2.1, hC.2.2.1, hC.2.2.2.1, hC.2.2.2.2.1⟩ (hM D aC ad r' hr') ⟨callB_of n hC.2.2.2.2.1 (goodTs_in hcode rfl) rfl rfl rfl (hC.2.2.2.2.1 _ hini) (hC.2.2.2.2.1 _ hw) hdd hR, hC.2.2.2.2.1 _ hi, hC.2.2.2.2.1 _ hse⟩ ⟨fOk.blind, va_recv hC.2.2.2.2.2.1 hP hc (fW_get he), fun U hU hW => ⟨by rw [hav], by rw [hU]; exact hP, va_K.moved hW.alike hC.2.2.2.2.2.1, hC.2.2.2.2.2.2.1, fNw.warm hW hC.2.2.2.2.2.2.2.2⟩⟩ rfl hn hl.1 hs (lv_room hst8) hd hcs
theorem g_cVN (hC : fCx p s m args c cl D aC tb ad A goodTs cc own nL) {y : MethodName} {bytes : ByteArray} {mLc fr lo rk index : Nat} {rt : Option FieldType} {av : (Nat → Nat) → List Value} {d' : fOp} {kd : Int → fMem → fOp} {C : String} {T : u_T} {N ci q : Nat} {fs : List (Nat × Nat)} {host : String} (pc' n : Nat) (As st : List Value) (hM : fMt l cl tb y bytes mLc rt fr lo rk av M d') (hav : av ad = .ref (ad q) :: As) (hs : stk = As.reverse ++ .ref (ad q) :: st) (he : tb[q]? = some (4, ci, fs)) (hc : cl[ci]? = some (C, T, N)) (hw : Cond.methodLinkNest own index y host ∈ lw_tbl) (hcode : Cond.code y bytes mLc rt ∈ goodTs) (hini : Cond.initialized y.cls ∈ goodTs) (hi : Cond.instanceMethod y ∈ goodTs) (hse : Cond.selects C y y ∈ goodTs) (hdd : y.cls ≠ "java/lang/invoke/MethodHandle" ∧ y.cls ≠ "java/lang/invoke/VarHandle" ∧ (parseMethodDescriptor y.desc).map (fun d => d.parameters.length) = some n) (hn : As.length = n) (hR : fr + 1 ≤ R.frames ∧ 8 + (mLc + 11) + lo ≤ R.locals) (hst8 : (st.map fun v => v.category).sum ≤ 8) (hcs : cells ≤ R.cells ∧ slots ≤ R.slots) (hd : decode cc pc = .ok (.invokevirtual index, 3)) (hp : pc + 3 = pc')
    (st' : Int → List Value) (hst : ∀ v, (fRv rk ad v).toList ++ st = st' v)
    (k : ∀ (v : Int) (M1 : fMem), GO p l e R s m args below meth c cl D aC tb ad A nL cells slots Qf pc' lv (st' v) M1 (kd v M1)) : GO p l e R s m args below meth c cl D aC tb ad A nL cells slots Qf pc lv stk M (fCl d' kd) := by
  refine g_run (rk := rk) (a := (Value.ref (ad q) :: As).toArray) hC pc' hp (fun r' hr' H locs ls hl hP hS => ?_) st' hst k
  exact va_runVN (Ts := goodTs) ⟨hC.1, hC.2.1, hC.2.2.1, hC.2.2.2.1, hC.2.2.2.2.1⟩ (hM D aC ad r' hr') ⟨va_cnB n hC.2.2.2.2.1 (goodTs_in hcode rfl) rfl rfl rfl (hC.2.2.2.2.2.2.2.2 _ hw rfl) (hC.2.2.2.2.1 _ hini) hdd hR, hC.2.2.2.2.1 _ hi, hC.2.2.2.2.1 _ hse⟩ ⟨fOk.blind, va_recv hC.2.2.2.2.2.1 hP hc (fW_get he), fun U hU hW => ⟨by rw [hav], by rw [hU]; exact hP, va_K.moved hW.alike hC.2.2.2.2.2.1, hC.2.2.2.2.2.2.1, fNw.warm hW hC.2.2.2.2.2.2.2.2⟩⟩ rfl hn hl.1 hs (lv_room hst8) hd hcs
theorem g_cS (hC : fCx p s m args c cl D aC tb ad A goodTs cc own nL) {y : MethodName} {bytes : ByteArray} {mLc fr lo rk index : Nat} {rt : Option FieldType} {av : (Nat → Nat) → List Value} {d' : fOp} {kd : Int → fMem → fOp} (pc' n : Nat) (As st : List Value) (hM : fMt l cl tb y bytes mLc rt fr lo rk av M d') (hav : av ad = As) (hs : stk = As.reverse ++ st) (hw : Cond.methodLink own index y ∈ goodTs) (hcode : Cond.code y bytes mLc rt ∈ goodTs) (hini : Cond.initialized y.cls ∈ goodTs) (hsta : Cond.static y ∈ goodTs) (hdd : y.cls ≠ "java/lang/invoke/MethodHandle" ∧ y.cls ≠ "java/lang/invoke/VarHandle" ∧ (parseMethodDescriptor y.desc).map (fun d => d.parameters.length) = some n) (hn : As.length = n) (hR : fr + 1 ≤ R.frames ∧ 8 + (mLc + 11) + lo ≤ R.locals) (hst8 : (st.map fun v => v.category).sum ≤ 8) (hcs : cells ≤ R.cells ∧ slots ≤ R.slots) (hd : decode cc pc = .ok (.invokestatic index, 3)) (hp : pc + 3 = pc')
    (st' : Int → List Value) (hst : ∀ v, (fRv rk ad v).toList ++ st = st' v)
    (k : ∀ (v : Int) (M1 : fMem), GO p l e R s m args below meth c cl D aC tb ad A nL cells slots Qf pc' lv (st' v) M1 (kd v M1)) : GO p l e R s m args below meth c cl D aC tb ad A nL cells slots Qf pc lv stk M (fCl d' kd) := by
  refine g_run (rk := rk) (a := As.toArray) hC pc' hp (fun r' hr' H locs ls hl hP hS => ?_) st' hst k
  exact va_runS (Ts := goodTs) ⟨hC.1, hC.2.1, hC.2.2.1, hC.2.2.2.1, hC.2.2.2.2.1⟩ (hM D aC ad r' hr') ⟨callB_of n hC.2.2.2.2.1 (goodTs_in hcode rfl) rfl rfl rfl (hC.2.2.2.2.1 _ hini) (hC.2.2.2.2.1 _ hw) hdd hR, hC.2.2.2.2.1 _ hsta⟩ ⟨fOk.blind, fun U hU hW => ⟨by rw [hav], by rw [hU]; exact hP, va_K.moved hW.alike hC.2.2.2.2.2.1, hC.2.2.2.2.2.2.1, fNw.warm hW hC.2.2.2.2.2.2.2.2⟩⟩ rfl hn hl.1 hs (lv_room hst8) hd hcs
theorem g_cSN (hC : fCx p s m args c cl D aC tb ad A goodTs cc own nL) {y : MethodName} {bytes : ByteArray} {mLc fr lo rk index : Nat} {rt : Option FieldType} {av : (Nat → Nat) → List Value} {d' : fOp} {kd : Int → fMem → fOp} {host : String} (pc' n : Nat) (As st : List Value) (hM : fMt l cl tb y bytes mLc rt fr lo rk av M d') (hav : av ad = As) (hs : stk = As.reverse ++ st) (hw : Cond.methodLinkNest own index y host ∈ lw_tbl) (hcode : Cond.code y bytes mLc rt ∈ goodTs) (hini : Cond.initialized y.cls ∈ goodTs) (hsta : Cond.static y ∈ goodTs) (hdd : y.cls ≠ "java/lang/invoke/MethodHandle" ∧ y.cls ≠ "java/lang/invoke/VarHandle" ∧ (parseMethodDescriptor y.desc).map (fun d => d.parameters.length) = some n) (hn : As.length = n) (hR : fr + 1 ≤ R.frames ∧ 8 + (mLc + 11) + lo ≤ R.locals) (hst8 : (st.map fun v => v.category).sum ≤ 8) (hcs : cells ≤ R.cells ∧ slots ≤ R.slots) (hd : decode cc pc = .ok (.invokestatic index, 3)) (hp : pc + 3 = pc')
    (st' : Int → List Value) (hst : ∀ v, (fRv rk ad v).toList ++ st = st' v)
    (k : ∀ (v : Int) (M1 : fMem), GO p l e R s m args below meth c cl D aC tb ad A nL cells slots Qf pc' lv (st' v) M1 (kd v M1)) : GO p l e R s m args below meth c cl D aC tb ad A nL cells slots Qf pc lv stk M (fCl d' kd) := by
  refine g_run (rk := rk) (a := As.toArray) hC pc' hp (fun r' hr' H locs ls hl hP hS => ?_) st' hst k
  exact va_runSN (Ts := goodTs) ⟨hC.1, hC.2.1, hC.2.2.1, hC.2.2.2.1, hC.2.2.2.2.1⟩ (hM D aC ad r' hr') ⟨va_cnB n hC.2.2.2.2.1 (goodTs_in hcode rfl) rfl rfl rfl (hC.2.2.2.2.2.2.2.2 _ hw rfl) (hC.2.2.2.2.1 _ hini) hdd hR, hC.2.2.2.2.1 _ hsta, trivial⟩ ⟨fOk.blind, fun U hU hW => ⟨by rw [hav], by rw [hU]; exact hP, va_K.moved hW.alike hC.2.2.2.2.2.1, hC.2.2.2.2.2.2.1, fNw.warm hW hC.2.2.2.2.2.2.2.2⟩⟩ rfl hn hl.1 hs (lv_room hst8) hd hcs
end FC
section FR
variable {p : Program} {l : Launch} {e : Env} {R : Room} {s : State} {m : MethodId} {args : Array Value} {below : List Frame} {meth : Method} {c : Code} {cl : List vw_C} {D : va_G} {aC : Nat → ClassId} {tb : List fEn} {ad : Nat → Nat} {nL : Nat}
variable {Ts : List Cond} {cc : ByteArray} {own : String} {pc : Nat} {lv : List (Nat × Value)} {M : fMem}
theorem g_ireturn (hC : fCx p s m args c cl D aC tb ad (fFr ad tb) Ts cc own nL) (hr : meth.sig.returnType = some .int) (hk : meth.locks = false) {v : Int} (hd : decode cc pc = .ok (.ireturn, 1)) : GO p l e R s m args below meth c cl D aC tb ad (fFr ad tb) nL 0 0 (fun r => MQ below (fQ cl D aC ad tb 0 r) args s 0 0 (fFr ad tb)) pc lv [.int (fI v)] M (some (v, M)) := by
  intro r hr0 H locs ls hl hP hS
  cases hr0
  exact W.iret hC.1 hC.2.1 hr (fun t ht hW => ⟨rfl, by rw [ht]; exact hP, hS.F ht⟩) hS.2.2 hd hk
theorem g_zreturn (hC : fCx p s m args c cl D aC tb ad (fFr ad tb) Ts cc own nL) (hr : meth.sig.returnType = some .boolean) (hk : meth.locks = false) {v : Int} (hd : decode cc pc = .ok (.ireturn, 1)) : GO p l e R s m args below meth c cl D aC tb ad (fFr ad tb) nL 0 0 (fun r => MQ below (fQ cl D aC ad tb 0 r) args s 0 0 (fFr ad tb)) pc lv [.int (fI v)] M (fRz v M) := by
  intro r hr0 H locs ls hl hP hS
  unfold fRz at hr0
  split at hr0
  · rename_i h
    cases hr0
    exact W.zret hC.1 hC.2.1 hr (fI_bool h) (fun t ht hW => ⟨rfl, by rw [ht]; exact hP, hS.F ht⟩) hS.2.2 hd hk
  · cases hr0
theorem g_lreturn (hC : fCx p s m args c cl D aC tb ad (fFr ad tb) Ts cc own nL) (hr : meth.sig.returnType = some .long) (hk : meth.locks = false) {v : Int} (hd : decode cc pc = .ok (.lreturn, 1)) : GO p l e R s m args below meth c cl D aC tb ad (fFr ad tb) nL 0 0 (fun r => MQ below (fQ cl D aC ad tb 1 r) args s 0 0 (fFr ad tb)) pc lv [.long (fL v)] M (some (v, M)) := by
  intro r hr0 H locs ls hl hP hS
  cases hr0
  exact W.lret hC.1 hC.2.1 hr (fun t ht hW => ⟨rfl, by rw [ht]; exact hP, hS.F ht⟩) hS.2.2 hd hk
theorem g_return (hC : fCx p s m args c cl D aC tb ad (fFr ad tb) Ts cc own nL) (hr : meth.sig.returnType = none) (hk : meth.locks = false) (hd : decode cc pc = .ok (.return_, 1)) : GO p l e R s m args below meth c cl D aC tb ad (fFr ad tb) nL 0 0 (fun r => MQ below (fQ cl D aC ad tb 2 r) args s 0 0 (fFr ad tb)) pc lv [] M (some (0, M)) := by
  intro r hr0 H locs ls hl hP hS
  cases hr0
  exact W.vret hC.1 hC.2.1 hr (fun t ht hW => ⟨rfl, by rw [ht]; exact hP, hS.F ht⟩) hS.2.2 hd hk
theorem g_areturn (hC : fCx p s m args c cl D aC tb ad (fFr ad tb) Ts cc own nL) {C : String} (hr : meth.sig.returnType = some (.object C)) (hk : meth.locks = false) {q : Nat} (hd : decode cc pc = .ok (.areturn, 1)) : GO p l e R s m args below meth c cl D aC tb ad (fFr ad tb) nL 0 0 (fun r => MQ below (fQ cl D aC ad tb 3 r) args s 0 0 (fFr ad tb)) pc lv [.ref (ad q)] M (some ((q : Int), M)) := by
  intro r hr0 H locs ls hl hP hS
  cases hr0
  exact W.aret hC.1 hC.2.1 hr (Or.inl ⟨_, rfl⟩) (Or.inr ⟨_, rfl⟩) (fun t ht hW => ⟨by simp [fRv], by rw [ht]; exact hP, hS.F ht⟩) hS.2.2 hd hk
end FR
section FX
variable {p : Program} {l : Launch} {e : Env} {R : Room} {s : State} {m : MethodId} {args : Array Value} {below : List Frame} {meth : Method} {c : Code} {cl : List vw_C} {D : va_G} {aC : Nat → ClassId} {tb : List fEn} {ad : Nat → Nat} {A : Nat → Prop} {nL cells slots : Nat} {Qf : Int × fMem → State → Prop}
variable {Ts : List Cond} {cc : ByteArray} {own : String} {pc : Nat} {lv : List (Nat × Value)} {st : List Value} {M : fMem} {d : fOp}
def fMx {α : Type} (a b : Int) (k : Int → Option α) : Option α := if InI a ∧ InI b then k (if a < b then b else a) else none
theorem g_max (hC : fCx p s m args c cl D aC tb ad A Ts cc own nL) {a b : Int} {kd : Int → fOp} {index : Nat} (pc' : Nat) (hw : Cond.methodLink own index Lib.Math.max.name ∈ Ts ∧ Cond.static Lib.Math.max.name ∈ Ts ∧ Cond.initialized "java/lang/Math" ∈ Ts ∧ Cond.code Lib.Math.max.name Lib.Math.max.code 2 (some .int) ∈ Ts) (hR : 1 ≤ R.frames ∧ (st.map fun v => v.category).sum + 13 ≤ R.locals) (hcs : cells ≤ R.cells ∧ slots ≤ R.slots) (hd : decode cc pc = .ok (.invokestatic index, 3)) (hp : pc + 3 = pc')
    (k : ∀ x : Int, GO p l e R s m args below meth c cl D aC tb ad A nL cells slots Qf pc' lv (.int (fI x) :: st) M (kd x)) : GO p l e R s m args below meth c cl D aC tb ad A nL cells slots Qf pc lv (.int (fI b) :: .int (fI a) :: st) M (fMx a b kd) := by
  subst hp
  intro r hr H locs ls hl hP hS
  unfold fMx at hr
  split at hr
  · rename_i h
    refine va_mmax hC.1 hC.2.1 (by rw [hC.2.2.1, hl.1]) hC.2.2.2.1 (hC.2.2.2.2.1 _ hw.1) (hC.2.2.2.2.1 _ hw.2.1) (hC.2.2.2.2.1 _ hw.2.2.1) (hC.2.2.2.2.1 _ hw.2.2.2) hR.1 hR.2 hcs.1 hcs.2 hd ?_
    have e1 : (if fI a < fI b then fI b else fI a) = fI (if a < b then b else a) := by
      simp only [fI_lt h.1 h.2]
      split <;> rfl
    rw [e1]
    exact k _ r hr H locs ls hl hP hS
  · cases hr
theorem g_alen (hC : fCx p s m args c cl D aC tb ad A Ts cc own nL) {q n : Nat} {xs : List (Nat × Nat)} (pc' : Nat) (he : tb[q]? = some (0, n, xs)) (hd : decode cc pc = .ok (.arraylength, 1)) (hp : pc + 1 = pc')
    (k : GO p l e R s m args below meth c cl D aC tb ad A nL cells slots Qf pc' lv (.int (fI (n : Int)) :: st) M d) : GO p l e R s m args below meth c cl D aC tb ad A nL cells slots Qf pc lv (.ref (ad q) :: st) M d := by
  subst hp
  exact fun r hr H locs ls hl hP hS => va_alen (ty := .int) hC.1 hC.2.1 hC.2.2.2.2.2.1 hP q 0 (fW_get he) rfl (fI_ofNat n) hd (k r hr H locs ls hl hP hS)
/-- Arrays.fill -/
def fFil (M : fMem) (q n : Nat) (v : Int) : fOp := some (0, fun p j => if p = q ∧ j < n then v else M p j)
end FX
