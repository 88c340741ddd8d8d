def R_law : String := "RevisionStoreLaw"
def lw_P (b : Addr) (xs : List Int32) (args : Array Value) (s : State) : Prop := args = #[.ref b] ∧ s.IntsAt b xs ∧ xs.length ≤ 2560 ∧ (Jvm.Cond.and given_1 narrow_1).before args s = true
def lw_Q (_ : Array Value) (s : State) (o : Outcome) (t : State) : Prop := o = .returned (some (.int 1)) ∧ Framed s o t [] 600000 7302250
def lw_Z (below : List Frame) (a : Array Value) (s : State) : State → Prop := fun t => ∃ o, t.status = .running ∧ Ended t below o ∧ lw_Q a s o t
/-- the law's own end, with 1 on the stack, nothing written that was there before, its room as the claim has it -/
theorem lw_ret {p : Program} {l : Launch} {e : Env} {s : State} {m : MethodId} {below : List Frame} {meth : Method} {c : Code} {b : Nat} (hx : p.tables.exec = Jvm.exec) (hb : c.code = code) (hr : meth.sig.returnType = ret) (hlocks : meth.locks = false) {pc : Nat} {H : Heap} {ls : Array Slot} (hdg : decode code pc = .ok (.ireturn, 1)) : W p l e room_1 s m #[Value.ref b] below meth c H [] 600000 7302250 (lw_Z below #[Value.ref b] s) (F0 m pc ls [.int 1]) := by
  intro T hT X
  obtain ⟨fs, hret, hrun, hended, hW, hframe⟩ := X.leave (v := some (.int 1)) (hlocks := hlocks) (fun h => by rw [hr] at h; cases h)
  have hmeth' : T.vm.method? m = some meth := X.method'
  refine ⟨T.setFrames fs, ?_, .returned (some (.int 1)), hrun, hended, rfl, ⟨_, rfl⟩, hW, hframe⟩
  jvm_step X.here [X.here.top, hx, hb, hdg, hmeth', hr, ret, narrow_b1]
  (try refine ⟨rfl, ?_⟩); (try refine ⟨rfl, ?_⟩)
  first | (intro acts; rw [hret _ acts rfl rfl rfl]) | rw [hret _ _ rfl rfl rfl]
  exact Steps.refl _
/-- what holds at the law's entry: the machine, the code, the tables' words (any of lw_tbl by 'hts w (by decide +kernel)'), the script of L ints xs at the cell b, what the Statement gives of the start (any of its parts by flat_of_before) -/
def lw_At (p : Program) (s : State) (m : MethodId) (meth : Method) (c : Code) (b L : Nat) (xs : Nat → Int32) : Prop :=
  p.tables.exec = Jvm.exec ∧ c.code = code ∧ meth.sig.returnType = ret ∧ c.maxLocals = 4 ∧ s.vm.findClass R_law = some m.cls ∧ (∀ w ∈ lw_tbl, w.before #[Value.ref b] s = true) ∧ va_X b L xs s s.heap ∧ b < s.heap.size ∧ meth.locks = false ∧ (Jvm.Cond.and given_1 narrow_1).before #[Value.ref b] s = true
/-! the law: its script, its switch, its end -/
def fSc {α : Type} (sc : Nat → Int) (L : Nat) (i : Int) (k : Int → Option α) : Option α := if 0 ≤ i ∧ i < (L : Int) then k (sc i.toNat) else none
def fA5 {α : Type} (x : Int) (k : Int → Option α) : Option α := k (x % 32)
def fShl (a : Int) : Int := (fL a <<< ((fI 32).toInt64 &&& 63)).toInt
def fM32 (a : Int) : Int := (fL a &&& fL 4294967295).toInt
def fOr (a b : Int) : Int := (fL a ||| fL b).toInt
theorem fI_and31 (a : Int) : fI a &&& fI 31 = fI (a % 32) := by
  rw [pk_and (fI a) (m := fI 31) 5 (by decide)]
  have e1 : (fI a).toBitVec.toNat = (a % 4294967296).toNat := by
    show (BitVec.ofInt 32 a).toNat = _
    rw [BitVec.toNat_ofInt]
    rfl
  rw [e1]
  show Int32.ofNat _ = fI (a % 32)
  rw [fI_ofNat]
  congr 1
  have h1 : (0 : Int) ≤ a % 4294967296 := Int.emod_nonneg _ (by decide)
  rw [Int.natCast_emod, Int.toNat_of_nonneg h1]
  omega
section FLaw
variable {p : Program} {l : Launch} {e : Env} {R : Room} {s : State} {m : MethodId} {args : Array Value} {below : List Frame} {meth : Method} {c : Code} {cl : List vw_C} {D : va_G} {aC : Nat → ClassId} {tb : List fEn} {ad : Nat → Nat} {A : Nat → Prop} {nL cells slots : Nat} {Qf : Int × fMem → State → Prop}
variable {Ts : List Cond} {cc : ByteArray} {own : String} {pc : Nat} {lv : List (Nat × Value)} {st : List Value} {M : fMem} {d : fOp}
theorem g_sld (hC : fCx p s m args c cl D aC tb ad A Ts cc own nL) {b L : Nat} {xs : Nat → Int32} (hX : va_X b L xs s s.heap ∧ b < s.heap.size ∧ ¬ A b ∧ L ≤ 2147483647) {i : Int} {kd : Int → fOp} (pc' : Nat) (hd : decode cc pc = .ok (.iaload, 1)) (hp : pc + 1 = pc')
    (k : ∀ x : Int, GO p l e R s m args below meth c cl D aC tb ad A nL cells slots Qf pc' lv (.int (fI x) :: st) M (kd x)) : GO p l e R s m args below meth c cl D aC tb ad A nL cells slots Qf pc lv (.int (fI i) :: .ref b :: st) M (fSc (fun j => (xs j).toInt) L i kd) := by
  subst hp
  intro r hr H locs ls hl hP hS
  unfold fSc at hr
  split at hr
  · rename_i h
    refine va_sld hC.1 hC.2.1 hX.1 hX.2.1 hX.2.2.1 hS (fI_in h (by omega)) hd ?_
    rw [fI_clamp h (by omega)]
    have h1 := k (xs i.toNat).toInt r hr H locs ls hl hP hS
    rw [fI_back] at h1
    exact h1
  · cases hr
theorem g_slen (hC : fCx p s m args c cl D aC tb ad A Ts cc own nL) {b L : Nat} {xs : Nat → Int32} (hX : va_X b L xs s s.heap ∧ b < s.heap.size ∧ ¬ A b ∧ L ≤ 2147483647) (pc' : Nat) (hd : decode cc pc = .ok (.arraylength, 1)) (hp : pc + 1 = pc')
    (k : GO p l e R s m args below meth c cl D aC tb ad A nL cells slots Qf pc' lv (.int (fI (L : Int)) :: st) M d) : GO p l e R s m args below meth c cl D aC tb ad A nL cells slots Qf pc lv (.ref b :: st) M d := by
  subst hp
  intro r hr H locs ls hl hP hS
  refine va_slen hC.1 hC.2.1 hX.1 hX.2.1 hX.2.2.1 hS hd ?_
  rw [fI_ofNat]
  exact k r hr H locs ls hl hP hS
theorem g_iand31 (hC : fCx p s m args c cl D aC tb ad A Ts cc own nL) {a : Int} {kd : Int → fOp} (pc' : Nat) (hd : decode cc pc = .ok (.iand, 1)) (hp : pc + 1 = pc')
    (k : ∀ x : Int, GO p l e R s m args below meth c cl D aC tb ad A nL cells slots Qf pc' lv (.int (fI x) :: st) M (kd x)) : GO p l e R s m args below meth c cl D aC tb ad A nL cells slots Qf pc lv (.int (fI 31) :: .int (fI a) :: st) M (fA5 a kd) := by
  subst hp
  exact fun r hr H locs ls hl hP hS => lv_iand hC.1 hC.2.1 hd (by rw [fI_and31]; exact k _ r hr H locs ls hl hP hS)
theorem g_lshl32 (hC : fCx p s m args c cl D aC tb ad A Ts cc own nL) {a : Int} (pc' : Nat) (hd : decode cc pc = .ok (.lshl, 1)) (hp : pc + 1 = pc')
    (k : GO p l e R s m args below meth c cl D aC tb ad A nL cells slots Qf pc' lv (.long (fL (fShl a)) :: st) M d) : GO p l e R s m args below meth c cl D aC tb ad A nL cells slots Qf pc lv (.int (fI 32) :: .long (fL a) :: st) M d := by
  subst hp
  exact fun r hr H locs ls hl hP hS => lv_lshl hC.1 hC.2.1 hd (fL_back _).symm (k r hr H locs ls hl hP hS)
theorem g_land32 (hC : fCx p s m args c cl D aC tb ad A Ts cc own nL) {a : Int} (pc' : Nat) (hd : decode cc pc = .ok (.land, 1)) (hp : pc + 1 = pc')
    (k : GO p l e R s m args below meth c cl D aC tb ad A nL cells slots Qf pc' lv (.long (fL (fM32 a)) :: st) M d) : GO p l e R s m args below meth c cl D aC tb ad A nL cells slots Qf pc lv (.long (fL 4294967295) :: .long (fL a) :: st) M d := by
  subst hp
  intro r hr H locs ls hl hP hS
  have h := k r hr H locs ls hl hP hS
  unfold fM32 at h
  rw [fL_back] at h
  exact lv_land hC.1 hC.2.1 hd h
theorem g_lor (hC : fCx p s m args c cl D aC tb ad A Ts cc own nL) {a b : Int} (pc' : Nat) (hd : decode cc pc = .ok (.lor, 1)) (hp : pc + 1 = pc')
    (k : GO p l e R s m args below meth c cl D aC tb ad A nL cells slots Qf pc' lv (.long (fL (fOr a b)) :: st) M d) : GO p l e R s m args below meth c cl D aC tb ad A nL cells slots Qf pc lv (.long (fL b) :: .long (fL a) :: st) M d := by
  subst hp
  intro r hr H locs ls hl hP hS
  have h := k r hr H locs ls hl hP hS
  unfold fOr at h
  rw [fL_back] at h
  exact lv_lor hC.1 hC.2.1 hd h
theorem g_tsw (hC : fCx p s m args c cl D aC tb ad A Ts cc own nL) {dflt lo hi off y : Int} {offs : Array Int} {len : Nat} {dT dF : fOp} (v : Int) (tgt : Nat) (hd : decode cc pc = .ok (.tableswitch dflt lo hi offs, len)) (hv : lo ≤ v ∧ v ≤ hi) (ho : offs[(v - lo).toNat]? = some off) (ht : (pc : Int) + off = (tgt : Int))
    (kt : GO p l e R s m args below meth c cl D aC tb ad A nL cells slots Qf tgt lv st M dT) (kf : ¬ y = v → GO p l e R s m args below meth c cl D aC tb ad A nL cells slots Qf pc lv (.int (fI y) :: st) M dF) : GO p l e R s m args below meth c cl D aC tb ad A nL cells slots Qf pc lv (.int (fI y) :: st) M (fEq y v dT dF) := by
  intro r hr H locs ls hl hP hS
  unfold fEq at hr
  split at hr
  · rename_i hy
    by_cases h : y = v
    · rw [if_pos h] at hr
      exact lv_tableIn hC.1 hC.2.1 hd (by rw [fI_toInt hy.1]; omega) (by rw [fI_toInt hy.1]; omega) (by rw [fI_toInt hy.1, h]; exact ho) ht (kt r hr H locs ls hl hP hS)
    · rw [if_neg h] at hr
      exact kf h r hr H locs ls hl hP hS
  · cases hr
theorem g_tswO (hC : fCx p s m args c cl D aC tb ad A Ts cc own nL) {dflt lo hi y : Int} {offs : Array Int} {len : Nat} (tgt : Nat) (hd : decode cc pc = .ok (.tableswitch dflt lo hi offs, len)) (hv : y < lo ∨ hi < y) (ht : (pc : Int) + dflt = (tgt : Int))
    (k : GO p l e R s m args below meth c cl D aC tb ad A nL cells slots Qf tgt lv st M d) : GO p l e R s m args below meth c cl D aC tb ad A nL cells slots Qf pc lv (.int (fI y) :: st) M (fX2 y d) := by
  intro r hr H locs ls hl hP hS
  unfold fX2 at hr
  split at hr
  · rename_i hy
    exact lv_tableOut hC.1 hC.2.1 hd (by rw [fI_toInt hy]; exact hv) ht (k r hr H locs ls hl hP hS)
  · cases hr
end FLaw
abbrev GL (l : Launch) (p : Program) (e : Env) (s : State) (m : MethodId) (b : Nat) (below : List Frame) (meth : Method) (c : Code) (D : va_G) (aC : Nat → ClassId) (ad : Nat → Nat) (CC SS : Nat) (pc : Nat) (lv : List (Nat × Value)) (st : List Value) (M : fMem) (d : fOp) : Prop := GO p l e room_1 s m #[Value.ref b] below meth c vwCl D aC TB ad (fun q => s.heap.size ≤ q) 4 CC SS (fun _ => lw_Z below #[Value.ref b] s) pc lv st M d
theorem g_lawret {l : Launch} {p : Program} {e : Env} {s : State} {m : MethodId} {b : Nat} {below : List Frame} {meth : Method} {c : Code} {D : va_G} {aC : Nat → ClassId} {ad : Nat → Nat} {CC SS : Nat} {cl : List vw_C} {Ts : List Cond} {nL : Nat} {own : String} {tb : List fEn} {A : Nat → Prop} (hC : fCx p s m #[Value.ref b] c cl D aC tb ad A Ts code own nL) (hr : meth.sig.returnType = ret) (hk : meth.locks = false) (hcs : CC ≤ 600000 ∧ SS ≤ 7302250) {pc : Nat} {lv : List (Nat × Value)} {M : fMem} (hd : decode code pc = .ok (.ireturn, 1)) : GL l p e s m b below meth c D aC ad CC SS pc lv [.int (fI 1)] M (some (1, M)) := by
  intro r hr0 H locs ls hl hP hS
  refine va_forget (fun q hq => hS.2.2 q hq) ?_
  refine W.widen (k := 600000) (n := 7302250) hcs.1 hcs.2 ?_
  exact lw_ret hC.1 hC.2.1 hr hk hd
