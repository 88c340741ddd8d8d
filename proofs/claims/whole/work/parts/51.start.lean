/-! from the law's entry to its loop -/
theorem sw_68 : Cond.classLink RL 7 RX5 ∈ goodTs := goodTs_mem (List.mem_of_getElem? (i := 68) (by decide +kernel)) (by decide +kernel)
theorem sw_69 : Cond.instantiable RX5 5 ∈ goodTs := goodTs_mem (List.mem_of_getElem? (i := 69) (by decide +kernel)) (by decide +kernel)
theorem sw_70 : Cond.methodLink RL 9 yX5_init ∈ goodTs := goodTs_mem (List.mem_of_getElem? (i := 70) (by decide +kernel)) (by decide +kernel)
theorem sw_71 : Cond.instanceMethod yX5_init ∈ goodTs := goodTs_mem (List.mem_of_getElem? (i := 71) (by decide +kernel)) (by decide +kernel)
theorem sw_72 : Cond.code yX5_init cX5_init 2 (none) ∈ goodTs := goodTs_mem (List.mem_of_getElem? (i := 72) (by decide +kernel)) (by decide +kernel)
theorem sw_59 : Cond.initialized RX5 ∈ goodTs := goodTs_mem (List.mem_of_getElem? (i := 59) (by decide +kernel)) (by decide +kernel)
theorem sw_65 : Cond.initialized RX6 ∈ goodTs := goodTs_mem (List.mem_of_getElem? (i := 65) (by decide +kernel)) (by decide +kernel)
theorem sw_521 : Cond.classLink RL 10 RX6 ∈ goodTs := goodTs_mem (List.mem_of_getElem? (i := 521) (by decide +kernel)) (by decide +kernel)
theorem sw_522 : Cond.instantiable RX6 22 ∈ goodTs := goodTs_mem (List.mem_of_getElem? (i := 522) (by decide +kernel)) (by decide +kernel)
theorem sw_523 : Cond.methodLink RL 12 yX6_init ∈ goodTs := goodTs_mem (List.mem_of_getElem? (i := 523) (by decide +kernel)) (by decide +kernel)
theorem sw_524 : Cond.instanceMethod yX6_init ∈ goodTs := goodTs_mem (List.mem_of_getElem? (i := 524) (by decide +kernel)) (by decide +kernel)
theorem sw_525 : Cond.code yX6_init cX6_init 2 (none) ∈ goodTs := goodTs_mem (List.mem_of_getElem? (i := 525) (by decide +kernel)) (by decide +kernel)
theorem sw_77 : Cond.arrayOver (.object "RevisionStore$History") ∈ lw_tbl := List.mem_of_getElem? (i := 77) (by decide +kernel)
theorem sw_139 : Cond.arrayOver (.object "RevisionStore$Copy") ∈ lw_tbl := List.mem_of_getElem? (i := 139) (by decide +kernel)
theorem sw_169 : Cond.arrayOver (.array .int) ∈ lw_tbl := List.mem_of_getElem? (i := 169) (by decide +kernel)
def nth6 {α : Type} (a b c d e f : α) : Nat → α := fun k => match k with
  | 0 => a
  | 1 => b
  | 2 => c
  | 3 => d
  | 4 => e
  | _ => f
theorem start_K {s : State} {args : Array Value} (hts : ∀ w ∈ lw_tbl, w.before args s = true) : ∃ (D : va_G) (aC : Nat → ClassId), va_K D vwCl (fTY aC) s := by
  have hg : ∀ w ∈ goodTs, w.before args s = true := fun w h => hts w (List.mem_filter.mp h).1
  obtain ⟨c0, i0, k0⟩ := u_known (T := TX0) (N := 4) hg inX0 (hg _ cw_140)
  obtain ⟨c1, i1, k1⟩ := u_known (T := TX1) (N := 7) hg inX1 (hg _ cw_163)
  obtain ⟨c2, i2, k2⟩ := u_known (T := TX2) (N := 14) hg inX2 (hg _ cw_78)
  obtain ⟨c3, i3, k3⟩ := u_known (T := TX3) (N := 5) hg inX3 (hg _ cw_198)
  obtain ⟨c4, i4, k4⟩ := u_known (T := TX5) (N := 5) hg inX5 (hg _ sw_69)
  obtain ⟨c5, i5, k5⟩ := u_known (T := TX6) (N := 22) hg inX6 (hg _ sw_522)
  obtain ⟨a0, x0, y0, p0, q0, r0⟩ := Cond.arrayClass_spec (hg _ cw_137)
  obtain ⟨a1, x1, y1, p1, q1, r1⟩ := Cond.arrayClass_spec (hg _ cw_136)
  obtain ⟨a2, x2, y2, p2, q2, r2⟩ := Cond.arrayClass_spec (hg _ cw_135)
  obtain ⟨y3, a3, x3, m3, -, q3, r3, p3⟩ := Cond.arrayOver_spec (hts _ sw_77)
  obtain ⟨y4, a4, x4, m4, -, q4, r4, p4⟩ := Cond.arrayOver_spec (hts _ sw_139)
  obtain ⟨y5, a5, x5, m5, q5, r5, p5⟩ := Cond.arrayOver_specA (hts _ sw_169)
  refine ⟨(nth6 c0 c1 c2 c3 c4 c5, nth6 i0 i1 i2 i3 i4 i5), nth6 a0 a1 a2 a3 a4 a5, fun k q hk => ?_, fun k q hk => ?_⟩
  · match k with
    | 0 => cases hk; exact k0
    | 1 => cases hk; exact k1
    | 2 => cases hk; exact k2
    | 3 => cases hk; exact k3
    | 4 => cases hk; exact k4
    | 5 => cases hk; exact k5
    | k + 6 => cases hk
  · match k with
    | 0 => cases hk; exact ⟨fun n z => ⟨fun k h => (by cases h), x0, q0, y0, r0⟩, p0⟩
    | 1 => cases hk; exact ⟨fun n z => ⟨fun k h => (by cases h), x1, q1, y1, r1⟩, p1⟩
    | 2 => cases hk; exact ⟨fun n z => ⟨fun k h => (by cases h), x2, q2, y2, r2⟩, p2⟩
    | 3 => cases hk; exact ⟨fun n z => ⟨fun k h => (by cases h), x3, q3, y3, r3⟩, x3, y3, q3, r3, m3, p3⟩
    | 4 => cases hk; exact ⟨fun n z => ⟨fun k h => (by cases h), x4, q4, y4, r4⟩, x4, y4, q4, r4, m4, p4⟩
    | 5 => cases hk; exact ⟨fun n z => ⟨fun k h => (by cases h), x5, q5, y5, r5⟩, p5⟩
    | k + 6 => cases hk
