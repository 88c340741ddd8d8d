section
-- ===== PART A: goes FIRST, ahead of the names: the tables' words, and 'selects' of the private methods out of them =====
/-- a private method of a class that the tables say can be made, by its rows of tables_1 -/
def lw_okq (q : MethodName × Nat) : Prop := (q.1.cls ≠ "java/lang/invoke/MethodHandle" ∧ q.1.cls ≠ "java/lang/invoke/VarHandle") ∧ Cond.instantiable q.1.cls q.2 ∈ tables_1 ∧ Cond.privateMethod q.1 ∈ tables_1 ∧ Cond.instanceMethod q.1 ∈ tables_1
theorem lw_p0 : lw_okq (⟨"RevisionStore", "copyOf", "(II)LRevisionStore$Copy;"⟩, 5) := ⟨⟨by decide +kernel, by decide +kernel⟩, List.mem_of_getElem? (i := 11) (by decide +kernel), List.mem_of_getElem? (i := 192) (by decide +kernel), List.mem_of_getElem? (i := 193) (by decide +kernel)⟩
theorem lw_p1 : lw_okq (⟨"RevisionStore$Copy", "hasEntry", "()Z"⟩, 4) := ⟨⟨by decide +kernel, by decide +kernel⟩, List.mem_of_getElem? (i := 82) (by decide +kernel), List.mem_of_getElem? (i := 196) (by decide +kernel), List.mem_of_getElem? (i := 197) (by decide +kernel)⟩
theorem lw_p2 : lw_okq (⟨"RevisionStore$Copy", "hold", "(IJ)V"⟩, 4) := ⟨⟨by decide +kernel, by decide +kernel⟩, List.mem_of_getElem? (i := 82) (by decide +kernel), List.mem_of_getElem? (i := 212) (by decide +kernel), List.mem_of_getElem? (i := 213) (by decide +kernel)⟩
theorem lw_p3 : lw_okq (⟨"RevisionStore$Copy", "hasText", "()Z"⟩, 4) := ⟨⟨by decide +kernel, by decide +kernel⟩, List.mem_of_getElem? (i := 82) (by decide +kernel), List.mem_of_getElem? (i := 220) (by decide +kernel), List.mem_of_getElem? (i := 221) (by decide +kernel)⟩
theorem lw_p4 : lw_okq (⟨"RevisionStore$Copy", "hasRevision", "()Z"⟩, 4) := ⟨⟨by decide +kernel, by decide +kernel⟩, List.mem_of_getElem? (i := 82) (by decide +kernel), List.mem_of_getElem? (i := 230) (by decide +kernel), List.mem_of_getElem? (i := 231) (by decide +kernel)⟩
theorem lw_p5 : lw_okq (⟨"RevisionStore$Copy", "markGone", "()V"⟩, 4) := ⟨⟨by decide +kernel, by decide +kernel⟩, List.mem_of_getElem? (i := 82) (by decide +kernel), List.mem_of_getElem? (i := 234) (by decide +kernel), List.mem_of_getElem? (i := 235) (by decide +kernel)⟩
theorem lw_p6 : lw_okq (⟨"RevisionStore$Copy", "drop", "()V"⟩, 4) := ⟨⟨by decide +kernel, by decide +kernel⟩, List.mem_of_getElem? (i := 82) (by decide +kernel), List.mem_of_getElem? (i := 238) (by decide +kernel), List.mem_of_getElem? (i := 239) (by decide +kernel)⟩
theorem lw_p7 : lw_okq (⟨"RevisionStore", "commitRefusal", "(LRevisionStore$Copy;LRevisionStore$History;)I"⟩, 5) := ⟨⟨by decide +kernel, by decide +kernel⟩, List.mem_of_getElem? (i := 11) (by decide +kernel), List.mem_of_getElem? (i := 246) (by decide +kernel), List.mem_of_getElem? (i := 247) (by decide +kernel)⟩
theorem lw_p8 : lw_okq (⟨"RevisionStore", "isStale", "(LRevisionStore$Copy;LRevisionStore$History;)Z"⟩, 5) := ⟨⟨by decide +kernel, by decide +kernel⟩, List.mem_of_getElem? (i := 11) (by decide +kernel), List.mem_of_getElem? (i := 250) (by decide +kernel), List.mem_of_getElem? (i := 251) (by decide +kernel)⟩
theorem lw_p9 : lw_okq (⟨"RevisionStore", "selectedBy", "(LRevisionStore$History;I)I"⟩, 5) := ⟨⟨by decide +kernel, by decide +kernel⟩, List.mem_of_getElem? (i := 11) (by decide +kernel), List.mem_of_getElem? (i := 254) (by decide +kernel), List.mem_of_getElem? (i := 255) (by decide +kernel)⟩
theorem lw_p10 : lw_okq (⟨"RevisionStore$History", "isThere", "()Z"⟩, 14) := ⟨⟨by decide +kernel, by decide +kernel⟩, List.mem_of_getElem? (i := 20) (by decide +kernel), List.mem_of_getElem? (i := 258) (by decide +kernel), List.mem_of_getElem? (i := 259) (by decide +kernel)⟩
theorem lw_p11 : lw_okq (⟨"RevisionStore$History", "tip", "(I)I"⟩, 14) := ⟨⟨by decide +kernel, by decide +kernel⟩, List.mem_of_getElem? (i := 20) (by decide +kernel), List.mem_of_getElem? (i := 262) (by decide +kernel), List.mem_of_getElem? (i := 263) (by decide +kernel)⟩
theorem lw_p12 : lw_okq (⟨"RevisionStore$History", "isAlive", "(I)Z"⟩, 14) := ⟨⟨by decide +kernel, by decide +kernel⟩, List.mem_of_getElem? (i := 20) (by decide +kernel), List.mem_of_getElem? (i := 266) (by decide +kernel), List.mem_of_getElem? (i := 267) (by decide +kernel)⟩
theorem lw_p13 : lw_okq (⟨"RevisionStore$History", "hasRoom", "(II)Z"⟩, 14) := ⟨⟨by decide +kernel, by decide +kernel⟩, List.mem_of_getElem? (i := 20) (by decide +kernel), List.mem_of_getElem? (i := 277) (by decide +kernel), List.mem_of_getElem? (i := 278) (by decide +kernel)⟩
theorem lw_p14 : lw_okq (⟨"RevisionStore$History", "append", "(IJZ)I"⟩, 14) := ⟨⟨by decide +kernel, by decide +kernel⟩, List.mem_of_getElem? (i := 20) (by decide +kernel), List.mem_of_getElem? (i := 287) (by decide +kernel), List.mem_of_getElem? (i := 288) (by decide +kernel)⟩
theorem lw_p15 : lw_okq (⟨"RevisionStore$History", "openBranch", "(I)I"⟩, 14) := ⟨⟨by decide +kernel, by decide +kernel⟩, List.mem_of_getElem? (i := 20) (by decide +kernel), List.mem_of_getElem? (i := 291) (by decide +kernel), List.mem_of_getElem? (i := 292) (by decide +kernel)⟩
def lw_privs_1 : List (MethodName × Nat) := [(⟨"RevisionStore", "copyOf", "(II)LRevisionStore$Copy;"⟩, 5), (⟨"RevisionStore$Copy", "hasEntry", "()Z"⟩, 4), (⟨"RevisionStore$Copy", "hold", "(IJ)V"⟩, 4), (⟨"RevisionStore$Copy", "hasText", "()Z"⟩, 4), (⟨"RevisionStore$Copy", "hasRevision", "()Z"⟩, 4), (⟨"RevisionStore$Copy", "markGone", "()V"⟩, 4), (⟨"RevisionStore$Copy", "drop", "()V"⟩, 4), (⟨"RevisionStore", "commitRefusal", "(LRevisionStore$Copy;LRevisionStore$History;)I"⟩, 5), (⟨"RevisionStore", "isStale", "(LRevisionStore$Copy;LRevisionStore$History;)Z"⟩, 5), (⟨"RevisionStore", "selectedBy", "(LRevisionStore$History;I)I"⟩, 5), (⟨"RevisionStore$History", "isThere", "()Z"⟩, 14), (⟨"RevisionStore$History", "tip", "(I)I"⟩, 14), (⟨"RevisionStore$History", "isAlive", "(I)Z"⟩, 14), (⟨"RevisionStore$History", "hasRoom", "(II)Z"⟩, 14), (⟨"RevisionStore$History", "append", "(IJZ)I"⟩, 14), (⟨"RevisionStore$History", "openBranch", "(I)I"⟩, 14)]
theorem lw_r1 : ∀ q ∈ lw_privs_1, lw_okq q := List.forall_mem_cons.mpr ⟨lw_p0, List.forall_mem_cons.mpr ⟨lw_p1, List.forall_mem_cons.mpr ⟨lw_p2, List.forall_mem_cons.mpr ⟨lw_p3, List.forall_mem_cons.mpr ⟨lw_p4, List.forall_mem_cons.mpr ⟨lw_p5, List.forall_mem_cons.mpr ⟨lw_p6, List.forall_mem_cons.mpr ⟨lw_p7, List.forall_mem_cons.mpr ⟨lw_p8, List.forall_mem_cons.mpr ⟨lw_p9, List.forall_mem_cons.mpr ⟨lw_p10, List.forall_mem_cons.mpr ⟨lw_p11, List.forall_mem_cons.mpr ⟨lw_p12, List.forall_mem_cons.mpr ⟨lw_p13, List.forall_mem_cons.mpr ⟨lw_p14, List.forall_mem_cons.mpr ⟨lw_p15, fun _ h => absurd h List.not_mem_nil⟩⟩⟩⟩⟩⟩⟩⟩⟩⟩⟩⟩⟩⟩⟩⟩
theorem lw_p16 : lw_okq (⟨"RevisionStore$History", "freeMagic", "(I)I"⟩, 14) := ⟨⟨by decide +kernel, by decide +kernel⟩, List.mem_of_getElem? (i := 20) (by decide +kernel), List.mem_of_getElem? (i := 295) (by decide +kernel), List.mem_of_getElem? (i := 296) (by decide +kernel)⟩
theorem lw_p17 : lw_okq (⟨"RevisionStore$History", "openBranchWith", "(II)I"⟩, 14) := ⟨⟨by decide +kernel, by decide +kernel⟩, List.mem_of_getElem? (i := 20) (by decide +kernel), List.mem_of_getElem? (i := 299) (by decide +kernel), List.mem_of_getElem? (i := 300) (by decide +kernel)⟩
theorem lw_p18 : lw_okq (⟨"RevisionStore", "isStickyWish", "(I)Z"⟩, 5) := ⟨⟨by decide +kernel, by decide +kernel⟩, List.mem_of_getElem? (i := 11) (by decide +kernel), List.mem_of_getElem? (i := 310) (by decide +kernel), List.mem_of_getElem? (i := 311) (by decide +kernel)⟩
theorem lw_p19 : lw_okq (⟨"RevisionStore", "updateCopy", "(LRevisionStore$Copy;LRevisionStore$History;I)I"⟩, 5) := ⟨⟨by decide +kernel, by decide +kernel⟩, List.mem_of_getElem? (i := 11) (by decide +kernel), List.mem_of_getElem? (i := 320) (by decide +kernel), List.mem_of_getElem? (i := 321) (by decide +kernel)⟩
theorem lw_p20 : lw_okq (⟨"RevisionStore", "mergeInto", "(LRevisionStore$Copy;LRevisionStore$History;I)I"⟩, 5) := ⟨⟨by decide +kernel, by decide +kernel⟩, List.mem_of_getElem? (i := 11) (by decide +kernel), List.mem_of_getElem? (i := 327) (by decide +kernel), List.mem_of_getElem? (i := 328) (by decide +kernel)⟩
theorem lw_p21 : lw_okq (⟨"RevisionStore$Merger", "merge", "(JJJ)V"⟩, 5) := ⟨⟨by decide +kernel, by decide +kernel⟩, List.mem_of_getElem? (i := 140) (by decide +kernel), List.mem_of_getElem? (i := 331) (by decide +kernel), List.mem_of_getElem? (i := 332) (by decide +kernel)⟩
theorem lw_p22 : lw_okq (⟨"RevisionStore$Difference", "compare", "(JJ)V"⟩, 7) := ⟨⟨by decide +kernel, by decide +kernel⟩, List.mem_of_getElem? (i := 105) (by decide +kernel), List.mem_of_getElem? (i := 335) (by decide +kernel), List.mem_of_getElem? (i := 336) (by decide +kernel)⟩
theorem lw_p23 : lw_okq (⟨"RevisionStore$Difference", "measureRests", "()V"⟩, 7) := ⟨⟨by decide +kernel, by decide +kernel⟩, List.mem_of_getElem? (i := 105) (by decide +kernel), List.mem_of_getElem? (i := 345) (by decide +kernel), List.mem_of_getElem? (i := 346) (by decide +kernel)⟩
theorem lw_p24 : lw_okq (⟨"RevisionStore$Difference", "pairLines", "()V"⟩, 7) := ⟨⟨by decide +kernel, by decide +kernel⟩, List.mem_of_getElem? (i := 105) (by decide +kernel), List.mem_of_getElem? (i := 352) (by decide +kernel), List.mem_of_getElem? (i := 353) (by decide +kernel)⟩
theorem lw_p25 : lw_okq (⟨"RevisionStore$Merger", "mergePart", "(IIIIII)V"⟩, 5) := ⟨⟨by decide +kernel, by decide +kernel⟩, List.mem_of_getElem? (i := 140) (by decide +kernel), List.mem_of_getElem? (i := 357) (by decide +kernel), List.mem_of_getElem? (i := 358) (by decide +kernel)⟩
theorem lw_p26 : lw_okq (⟨"RevisionStore$Merger", "takeAll", "([III)V"⟩, 5) := ⟨⟨by decide +kernel, by decide +kernel⟩, List.mem_of_getElem? (i := 140) (by decide +kernel), List.mem_of_getElem? (i := 364) (by decide +kernel), List.mem_of_getElem? (i := 365) (by decide +kernel)⟩
theorem lw_p27 : lw_okq (⟨"RevisionStore$Merger", "take", "(I)V"⟩, 5) := ⟨⟨by decide +kernel, by decide +kernel⟩, List.mem_of_getElem? (i := 140) (by decide +kernel), List.mem_of_getElem? (i := 368) (by decide +kernel), List.mem_of_getElem? (i := 369) (by decide +kernel)⟩
theorem lw_p28 : lw_okq (⟨"RevisionStore$Merger", "isTooLong", "()Z"⟩, 5) := ⟨⟨by decide +kernel, by decide +kernel⟩, List.mem_of_getElem? (i := 140) (by decide +kernel), List.mem_of_getElem? (i := 373) (by decide +kernel), List.mem_of_getElem? (i := 374) (by decide +kernel)⟩
theorem lw_p29 : lw_okq (⟨"RevisionStore$History", "openVendorBranch", "()V"⟩, 14) := ⟨⟨by decide +kernel, by decide +kernel⟩, List.mem_of_getElem? (i := 20) (by decide +kernel), List.mem_of_getElem? (i := 385) (by decide +kernel), List.mem_of_getElem? (i := 386) (by decide +kernel)⟩
theorem lw_p30 : lw_okq (⟨"RevisionStore", "isRevision", "(II)Z"⟩, 5) := ⟨⟨by decide +kernel, by decide +kernel⟩, List.mem_of_getElem? (i := 11) (by decide +kernel), List.mem_of_getElem? (i := 418) (by decide +kernel), List.mem_of_getElem? (i := 419) (by decide +kernel)⟩
theorem lw_p31 : lw_okq (⟨"RevisionStore$History", "numberPart", "(II)I"⟩, 14) := ⟨⟨by decide +kernel, by decide +kernel⟩, List.mem_of_getElem? (i := 20) (by decide +kernel), List.mem_of_getElem? (i := 422) (by decide +kernel), List.mem_of_getElem? (i := 423) (by decide +kernel)⟩
def lw_privs_2 : List (MethodName × Nat) := [(⟨"RevisionStore$History", "freeMagic", "(I)I"⟩, 14), (⟨"RevisionStore$History", "openBranchWith", "(II)I"⟩, 14), (⟨"RevisionStore", "isStickyWish", "(I)Z"⟩, 5), (⟨"RevisionStore", "updateCopy", "(LRevisionStore$Copy;LRevisionStore$History;I)I"⟩, 5), (⟨"RevisionStore", "mergeInto", "(LRevisionStore$Copy;LRevisionStore$History;I)I"⟩, 5), (⟨"RevisionStore$Merger", "merge", "(JJJ)V"⟩, 5), (⟨"RevisionStore$Difference", "compare", "(JJ)V"⟩, 7), (⟨"RevisionStore$Difference", "measureRests", "()V"⟩, 7), (⟨"RevisionStore$Difference", "pairLines", "()V"⟩, 7), (⟨"RevisionStore$Merger", "mergePart", "(IIIIII)V"⟩, 5), (⟨"RevisionStore$Merger", "takeAll", "([III)V"⟩, 5), (⟨"RevisionStore$Merger", "take", "(I)V"⟩, 5), (⟨"RevisionStore$Merger", "isTooLong", "()Z"⟩, 5), (⟨"RevisionStore$History", "openVendorBranch", "()V"⟩, 14), (⟨"RevisionStore", "isRevision", "(II)Z"⟩, 5), (⟨"RevisionStore$History", "numberPart", "(II)I"⟩, 14)]
theorem lw_r2 : ∀ q ∈ lw_privs_2, lw_okq q := List.forall_mem_cons.mpr ⟨lw_p16, List.forall_mem_cons.mpr ⟨lw_p17, List.forall_mem_cons.mpr ⟨lw_p18, List.forall_mem_cons.mpr ⟨lw_p19, List.forall_mem_cons.mpr ⟨lw_p20, List.forall_mem_cons.mpr ⟨lw_p21, List.forall_mem_cons.mpr ⟨lw_p22, List.forall_mem_cons.mpr ⟨lw_p23, List.forall_mem_cons.mpr ⟨lw_p24, List.forall_mem_cons.mpr ⟨lw_p25, List.forall_mem_cons.mpr ⟨lw_p26, List.forall_mem_cons.mpr ⟨lw_p27, List.forall_mem_cons.mpr ⟨lw_p28, List.forall_mem_cons.mpr ⟨lw_p29, List.forall_mem_cons.mpr ⟨lw_p30, List.forall_mem_cons.mpr ⟨lw_p31, fun _ h => absurd h List.not_mem_nil⟩⟩⟩⟩⟩⟩⟩⟩⟩⟩⟩⟩⟩⟩⟩⟩
theorem lw_p32 : lw_okq (⟨"RevisionStore$History", "depth", "(I)I"⟩, 14) := ⟨⟨by decide +kernel, by decide +kernel⟩, List.mem_of_getElem? (i := 20) (by decide +kernel), List.mem_of_getElem? (i := 426) (by decide +kernel), List.mem_of_getElem? (i := 427) (by decide +kernel)⟩
theorem lw_p33 : lw_okq (⟨"RevisionStore$History", "keptAgainst", "(I)I"⟩, 14) := ⟨⟨by decide +kernel, by decide +kernel⟩, List.mem_of_getElem? (i := 20) (by decide +kernel), List.mem_of_getElem? (i := 442) (by decide +kernel), List.mem_of_getElem? (i := 443) (by decide +kernel)⟩
theorem lw_p34 : lw_okq (⟨"RevisionStore$History", "nextOnTrunk", "(I)I"⟩, 14) := ⟨⟨by decide +kernel, by decide +kernel⟩, List.mem_of_getElem? (i := 20) (by decide +kernel), List.mem_of_getElem? (i := 446) (by decide +kernel), List.mem_of_getElem? (i := 447) (by decide +kernel)⟩
theorem lw_p35 : lw_okq (⟨"RevisionStore$Difference", "size", "()I"⟩, 7) := ⟨⟨by decide +kernel, by decide +kernel⟩, List.mem_of_getElem? (i := 105) (by decide +kernel), List.mem_of_getElem? (i := 452) (by decide +kernel), List.mem_of_getElem? (i := 453) (by decide +kernel)⟩
theorem lw_p36 : lw_okq (⟨"RevisionStoreModel", "hasLocal", "(I)Z"⟩, 22) := ⟨⟨by decide +kernel, by decide +kernel⟩, List.mem_of_getElem? (i := 464) (by decide +kernel), List.mem_of_getElem? (i := 565) (by decide +kernel), List.mem_of_getElem? (i := 566) (by decide +kernel)⟩
theorem lw_p37 : lw_okq (⟨"RevisionStoreModel", "bars", "(II)I"⟩, 22) := ⟨⟨by decide +kernel, by decide +kernel⟩, List.mem_of_getElem? (i := 464) (by decide +kernel), List.mem_of_getElem? (i := 577) (by decide +kernel), List.mem_of_getElem? (i := 578) (by decide +kernel)⟩
theorem lw_p38 : lw_okq (⟨"RevisionStoreModel", "selectedBy", "(II)I"⟩, 22) := ⟨⟨by decide +kernel, by decide +kernel⟩, List.mem_of_getElem? (i := 464) (by decide +kernel), List.mem_of_getElem? (i := 581) (by decide +kernel), List.mem_of_getElem? (i := 582) (by decide +kernel)⟩
theorem lw_p39 : lw_okq (⟨"RevisionStoreModel", "last", "(II)I"⟩, 22) := ⟨⟨by decide +kernel, by decide +kernel⟩, List.mem_of_getElem? (i := 464) (by decide +kernel), List.mem_of_getElem? (i := 585) (by decide +kernel), List.mem_of_getElem? (i := 586) (by decide +kernel)⟩
theorem lw_p40 : lw_okq (⟨"RevisionStoreModel", "noneOrDead", "(II)Z"⟩, 22) := ⟨⟨by decide +kernel, by decide +kernel⟩, List.mem_of_getElem? (i := 464) (by decide +kernel), List.mem_of_getElem? (i := 589) (by decide +kernel), List.mem_of_getElem? (i := 590) (by decide +kernel)⟩
theorem lw_p41 : lw_okq (⟨"RevisionStoreModel", "modified", "(II)Z"⟩, 22) := ⟨⟨by decide +kernel, by decide +kernel⟩, List.mem_of_getElem? (i := 464) (by decide +kernel), List.mem_of_getElem? (i := 593) (by decide +kernel), List.mem_of_getElem? (i := 594) (by decide +kernel)⟩
theorem lw_p42 : lw_okq (⟨"RevisionStoreModel", "revise", "(IIJZ)I"⟩, 22) := ⟨⟨by decide +kernel, by decide +kernel⟩, List.mem_of_getElem? (i := 464) (by decide +kernel), List.mem_of_getElem? (i := 597) (by decide +kernel), List.mem_of_getElem? (i := 598) (by decide +kernel)⟩
theorem lw_p43 : lw_okq (⟨"RevisionStoreModel", "freeMagic", "(II)I"⟩, 22) := ⟨⟨by decide +kernel, by decide +kernel⟩, List.mem_of_getElem? (i := 464) (by decide +kernel), List.mem_of_getElem? (i := 601) (by decide +kernel), List.mem_of_getElem? (i := 602) (by decide +kernel)⟩
theorem lw_p44 : lw_okq (⟨"RevisionStoreModel", "branchAt", "(III)I"⟩, 22) := ⟨⟨by decide +kernel, by decide +kernel⟩, List.mem_of_getElem? (i := 464) (by decide +kernel), List.mem_of_getElem? (i := 605) (by decide +kernel), List.mem_of_getElem? (i := 606) (by decide +kernel)⟩
theorem lw_p45 : lw_okq (⟨"RevisionStoreModel", "updated", "(III)I"⟩, 22) := ⟨⟨by decide +kernel, by decide +kernel⟩, List.mem_of_getElem? (i := 464) (by decide +kernel), List.mem_of_getElem? (i := 613) (by decide +kernel), List.mem_of_getElem? (i := 614) (by decide +kernel)⟩
theorem lw_p46 : lw_okq (⟨"RevisionStoreModel", "take", "(III)V"⟩, 22) := ⟨⟨by decide +kernel, by decide +kernel⟩, List.mem_of_getElem? (i := 464) (by decide +kernel), List.mem_of_getElem? (i := 617) (by decide +kernel), List.mem_of_getElem? (i := 618) (by decide +kernel)⟩
theorem lw_p47 : lw_okq (⟨"RevisionStoreModel", "merge", "(JJJ)V"⟩, 22) := ⟨⟨by decide +kernel, by decide +kernel⟩, List.mem_of_getElem? (i := 464) (by decide +kernel), List.mem_of_getElem? (i := 621) (by decide +kernel), List.mem_of_getElem? (i := 622) (by decide +kernel)⟩
def lw_privs_3 : List (MethodName × Nat) := [(⟨"RevisionStore$History", "depth", "(I)I"⟩, 14), (⟨"RevisionStore$History", "keptAgainst", "(I)I"⟩, 14), (⟨"RevisionStore$History", "nextOnTrunk", "(I)I"⟩, 14), (⟨"RevisionStore$Difference", "size", "()I"⟩, 7), (⟨"RevisionStoreModel", "hasLocal", "(I)Z"⟩, 22), (⟨"RevisionStoreModel", "bars", "(II)I"⟩, 22), (⟨"RevisionStoreModel", "selectedBy", "(II)I"⟩, 22), (⟨"RevisionStoreModel", "last", "(II)I"⟩, 22), (⟨"RevisionStoreModel", "noneOrDead", "(II)Z"⟩, 22), (⟨"RevisionStoreModel", "modified", "(II)Z"⟩, 22), (⟨"RevisionStoreModel", "revise", "(IIJZ)I"⟩, 22), (⟨"RevisionStoreModel", "freeMagic", "(II)I"⟩, 22), (⟨"RevisionStoreModel", "branchAt", "(III)I"⟩, 22), (⟨"RevisionStoreModel", "updated", "(III)I"⟩, 22), (⟨"RevisionStoreModel", "take", "(III)V"⟩, 22), (⟨"RevisionStoreModel", "merge", "(JJJ)V"⟩, 22)]
theorem lw_r3 : ∀ q ∈ lw_privs_3, lw_okq q := List.forall_mem_cons.mpr ⟨lw_p32, List.forall_mem_cons.mpr ⟨lw_p33, List.forall_mem_cons.mpr ⟨lw_p34, List.forall_mem_cons.mpr ⟨lw_p35, List.forall_mem_cons.mpr ⟨lw_p36, List.forall_mem_cons.mpr ⟨lw_p37, List.forall_mem_cons.mpr ⟨lw_p38, List.forall_mem_cons.mpr ⟨lw_p39, List.forall_mem_cons.mpr ⟨lw_p40, List.forall_mem_cons.mpr ⟨lw_p41, List.forall_mem_cons.mpr ⟨lw_p42, List.forall_mem_cons.mpr ⟨lw_p43, List.forall_mem_cons.mpr ⟨lw_p44, List.forall_mem_cons.mpr ⟨lw_p45, List.forall_mem_cons.mpr ⟨lw_p46, List.forall_mem_cons.mpr ⟨lw_p47, fun _ h => absurd h List.not_mem_nil⟩⟩⟩⟩⟩⟩⟩⟩⟩⟩⟩⟩⟩⟩⟩⟩
theorem lw_p48 : lw_okq (⟨"RevisionStoreModel", "pairUp", "(JJZ)V"⟩, 22) := ⟨⟨by decide +kernel, by decide +kernel⟩, List.mem_of_getElem? (i := 464) (by decide +kernel), List.mem_of_getElem? (i := 625) (by decide +kernel), List.mem_of_getElem? (i := 626) (by decide +kernel)⟩
theorem lw_p49 : lw_okq (⟨"RevisionStoreModel", "fill", "(JJ)V"⟩, 22) := ⟨⟨by decide +kernel, by decide +kernel⟩, List.mem_of_getElem? (i := 464) (by decide +kernel), List.mem_of_getElem? (i := 629) (by decide +kernel), List.mem_of_getElem? (i := 630) (by decide +kernel)⟩
theorem lw_p50 : lw_okq (⟨"RevisionStoreModel", "putAll", "(JII)V"⟩, 22) := ⟨⟨by decide +kernel, by decide +kernel⟩, List.mem_of_getElem? (i := 464) (by decide +kernel), List.mem_of_getElem? (i := 636) (by decide +kernel), List.mem_of_getElem? (i := 637) (by decide +kernel)⟩
theorem lw_p51 : lw_okq (⟨"RevisionStoreModel", "put", "(I)V"⟩, 22) := ⟨⟨by decide +kernel, by decide +kernel⟩, List.mem_of_getElem? (i := 464) (by decide +kernel), List.mem_of_getElem? (i := 640) (by decide +kernel), List.mem_of_getElem? (i := 641) (by decide +kernel)⟩
theorem lw_p52 : lw_okq (⟨"RevisionStoreModel", "mergedText", "()J"⟩, 22) := ⟨⟨by decide +kernel, by decide +kernel⟩, List.mem_of_getElem? (i := 464) (by decide +kernel), List.mem_of_getElem? (i := 644) (by decide +kernel), List.mem_of_getElem? (i := 645) (by decide +kernel)⟩
theorem lw_p53 : lw_okq (⟨"RevisionStoreModel", "firstOfTrunk", "(I)I"⟩, 22) := ⟨⟨by decide +kernel, by decide +kernel⟩, List.mem_of_getElem? (i := 464) (by decide +kernel), List.mem_of_getElem? (i := 656) (by decide +kernel), List.mem_of_getElem? (i := 657) (by decide +kernel)⟩
theorem lw_p54 : lw_okq (⟨"RevisionStoreModel", "noRevision", "(II)Z"⟩, 22) := ⟨⟨by decide +kernel, by decide +kernel⟩, List.mem_of_getElem? (i := 464) (by decide +kernel), List.mem_of_getElem? (i := 689) (by decide +kernel), List.mem_of_getElem? (i := 690) (by decide +kernel)⟩
theorem lw_p55 : lw_okq (⟨"RevisionStoreModel", "parts", "(II)I"⟩, 22) := ⟨⟨by decide +kernel, by decide +kernel⟩, List.mem_of_getElem? (i := 464) (by decide +kernel), List.mem_of_getElem? (i := 693) (by decide +kernel), List.mem_of_getElem? (i := 694) (by decide +kernel)⟩
theorem lw_p56 : lw_okq (⟨"RevisionStoreModel", "revisionAt", "(III)I"⟩, 22) := ⟨⟨by decide +kernel, by decide +kernel⟩, List.mem_of_getElem? (i := 464) (by decide +kernel), List.mem_of_getElem? (i := 709) (by decide +kernel), List.mem_of_getElem? (i := 710) (by decide +kernel)⟩
theorem lw_p57 : lw_okq (⟨"RevisionStoreModel", "difference", "(JJ)I"⟩, 22) := ⟨⟨by decide +kernel, by decide +kernel⟩, List.mem_of_getElem? (i := 464) (by decide +kernel), List.mem_of_getElem? (i := 713) (by decide +kernel), List.mem_of_getElem? (i := 714) (by decide +kernel)⟩
def lw_privs_4 : List (MethodName × Nat) := [(⟨"RevisionStoreModel", "pairUp", "(JJZ)V"⟩, 22), (⟨"RevisionStoreModel", "fill", "(JJ)V"⟩, 22), (⟨"RevisionStoreModel", "putAll", "(JII)V"⟩, 22), (⟨"RevisionStoreModel", "put", "(I)V"⟩, 22), (⟨"RevisionStoreModel", "mergedText", "()J"⟩, 22), (⟨"RevisionStoreModel", "firstOfTrunk", "(I)I"⟩, 22), (⟨"RevisionStoreModel", "noRevision", "(II)Z"⟩, 22), (⟨"RevisionStoreModel", "parts", "(II)I"⟩, 22), (⟨"RevisionStoreModel", "revisionAt", "(III)I"⟩, 22), (⟨"RevisionStoreModel", "difference", "(JJ)I"⟩, 22)]
theorem lw_r4 : ∀ q ∈ lw_privs_4, lw_okq q := List.forall_mem_cons.mpr ⟨lw_p48, List.forall_mem_cons.mpr ⟨lw_p49, List.forall_mem_cons.mpr ⟨lw_p50, List.forall_mem_cons.mpr ⟨lw_p51, List.forall_mem_cons.mpr ⟨lw_p52, List.forall_mem_cons.mpr ⟨lw_p53, List.forall_mem_cons.mpr ⟨lw_p54, List.forall_mem_cons.mpr ⟨lw_p55, List.forall_mem_cons.mpr ⟨lw_p56, List.forall_mem_cons.mpr ⟨lw_p57, fun _ h => absurd h List.not_mem_nil⟩⟩⟩⟩⟩⟩⟩⟩⟩⟩
def lw_privs : List (MethodName × Nat) := lw_privs_1 ++ (lw_privs_2 ++ (lw_privs_3 ++ (lw_privs_4)))
def lw_tbl : List Cond := k2_sels lw_privs ++ tables_1
theorem lw_privs_ok : ∀ q ∈ lw_privs, lw_okq q := by
  show ∀ q ∈ lw_privs_1 ++ (lw_privs_2 ++ (lw_privs_3 ++ (lw_privs_4))), lw_okq q
  exact List.forall_mem_append.mpr ⟨lw_r1, List.forall_mem_append.mpr ⟨lw_r2, List.forall_mem_append.mpr ⟨lw_r3, lw_r4⟩⟩⟩
theorem wb_tb (n : Nat) : (lN n).toBitVec = BitVec.ofNat 64 n := rfl
theorem wb_inj {a b : Int64} (h : a.toBitVec = b.toBitVec) : a = b := Int64.toBitVec_inj.mp h
theorem wb_tn {n : Nat} (h : n < 2 ^ 64) : (lN n).toBitVec.toNat = n := by rw [wb_tb, BitVec.toNat_ofNat, Nat.mod_eq_of_lt h]
theorem wb_of (x : Int64) : ∃ n, n < 2 ^ 64 ∧ x = lN n := ⟨x.toBitVec.toNat, x.toBitVec.isLt, wb_inj (by rw [wb_tb]; simp)⟩
theorem wb_of32 (x : Int32) : ∃ n, n < 2 ^ 32 ∧ x = nI n := ⟨x.toBitVec.toNat, x.toBitVec.isLt, Int32.toBitVec_inj.mp (by show _ = BitVec.ofNat 32 _; simp)⟩
theorem wb_c : ∀ k, k < 64 → ((nI k).toInt64 &&& 63) = lN k := by decide +kernel
theorem wb_cu : ∀ k, k < 64 → ((nI k).toInt64.toUInt64 &&& Int64.toUInt64 63) = UInt64.ofNat k := by decide +kernel
theorem wb_sm : ∀ k, k < 64 → (BitVec.ofNat 64 k).smod 64 = BitVec.ofNat 64 k := by decide +kernel
theorem wb_pw {a b : Nat} (h : a ≤ b) : 2 ^ b = 2 ^ a * 2 ^ (b - a) := by rw [← Nat.pow_add]; congr 1; omega
theorem wb_lt2 {a b : Nat} (h : a < b) : 2 ^ a < 2 ^ b := Nat.pow_lt_pow_right (by decide) h
theorem wb_mod (n : Nat) : lN n = lN (n % 2 ^ 64) := wb_inj (by rw [wb_tb, wb_tb]; apply BitVec.eq_of_toNat_eq; rw [BitVec.toNat_ofNat, BitVec.toNat_ofNat, Nat.mod_mod])
theorem wb_shr {n k : Nat} (hn : n < 2 ^ 64) (hk : k < 64) : ((lN n).toUInt64 >>> ((nI k).toInt64.toUInt64 &&& Int64.toUInt64 63)).toInt64 = lN (n / 2 ^ k) := by
  rw [wb_cu k hk]
  apply wb_inj
  apply BitVec.eq_of_toNat_eq
  show ((lN n).toUInt64 >>> UInt64.ofNat k).toNat = (BitVec.ofNat 64 _).toNat
  have h1 : (UInt64.ofNat k).toNat = k := by
    show (BitVec.ofNat 64 k).toNat = k
    rw [BitVec.toNat_ofNat, Nat.mod_eq_of_lt (by omega)]
  have h2 : (lN n).toUInt64.toNat = n := wb_tn hn
  rw [UInt64.toNat_shiftRight, h1, h2, Nat.mod_eq_of_lt hk, Nat.shiftRight_eq_div_pow, BitVec.toNat_ofNat, Nat.mod_eq_of_lt (Nat.lt_of_le_of_lt (Nat.div_le_self _ _) hn)]
theorem wb_shl (n : Nat) {k : Nat} (hk : k < 64) : lN n <<< ((nI k).toInt64 &&& 63) = lN (n * 2 ^ k) := by
  rw [wb_c k hk]
  apply wb_inj
  rw [Int64.toBitVec_shiftLeft, wb_tb, wb_tb, wb_tb, wb_sm k hk]
  apply BitVec.eq_of_toNat_eq
  rw [BitVec.shiftLeft_eq', BitVec.toNat_shiftLeft, BitVec.toNat_ofNat, BitVec.toNat_ofNat, BitVec.toNat_ofNat, Nat.mod_eq_of_lt (show k < 2 ^ 64 by omega), Nat.shiftLeft_eq, Nat.mul_mod, Nat.mod_mod, ← Nat.mul_mod]
theorem wb_and {a b : Nat} (ha : a < 2 ^ 64) (hb : b < 2 ^ 64) : lN a &&& lN b = lN (a &&& b) := by
  apply wb_inj
  rw [Int64.toBitVec_and, wb_tb, wb_tb, wb_tb]
  apply BitVec.eq_of_toNat_eq
  rw [BitVec.toNat_and, BitVec.toNat_ofNat, BitVec.toNat_ofNat, BitVec.toNat_ofNat, Nat.mod_eq_of_lt ha, Nat.mod_eq_of_lt hb, Nat.mod_eq_of_lt (Nat.and_lt_two_pow _ hb)]
theorem wb_or {a b : Nat} (ha : a < 2 ^ 64) (hb : b < 2 ^ 64) : lN a ||| lN b = lN (a ||| b) := by
  apply wb_inj
  rw [Int64.toBitVec_or, wb_tb, wb_tb, wb_tb]
  apply BitVec.eq_of_toNat_eq
  rw [BitVec.toNat_or, BitVec.toNat_ofNat, BitVec.toNat_ofNat, BitVec.toNat_ofNat, Nat.mod_eq_of_lt ha, Nat.mod_eq_of_lt hb, Nat.mod_eq_of_lt (Nat.or_lt_two_pow ha hb)]
theorem wb_mask {n k : Nat} (hn : n < 2 ^ 64) (hk : k < 64) : lN n &&& lN (2 ^ k - 1) = lN (n % 2 ^ k) := by
  rw [wb_and hn (by have := wb_lt2 hk; omega), Nat.and_two_pow_sub_one_eq_mod]
theorem pf_lI {a : Nat} (h : a < 2 ^ 63) : (lN a).toInt = (a : Int) := lg_ofNat_toInt h
theorem pf_shr {a d : Nat} {D : Int64} (hD : (D.toBitVec.smod 64).toNat = d) (h : a < 2 ^ 62) : lN a >>> D = lN (a / 2 ^ d) := by
  have hd : a / 2 ^ d ≤ a := Nat.div_le_self _ _
  apply Int64.toInt_inj.mp
  have e : (lN a >>> D).toInt = (lN a).toInt >>> d := by
    rw [← hD]
    exact BitVec.toInt_sshiftRight ..
  rw [e, Int.shiftRight_eq_div_pow, pf_lI (by omega), pf_lI (by omega)]
  rfl
end
section
/-! Flat worlds: every cell has a place; the memory is integers; one judgement for a walk. -/
abbrev fMem : Type := Nat → Nat → Int
abbrev fEn : Type := Nat × Nat × List (Nat × Nat)
abbrev InI (a : Int) : Prop := -2147483648 ≤ a ∧ a ≤ 2147483647
abbrev InL (a : Int) : Prop := -9223372036854775808 ≤ a ∧ a ≤ 9223372036854775807
def fI (a : Int) : Int32 := Int32.ofInt a
def fL (a : Int) : Int64 := Int64.ofInt a
def fup (M : fMem) (p j : Nat) (v : Int) : fMem := fun q i => if q = p ∧ i = j then v else M q i
theorem fup_self (M : fMem) (p j : Nat) (v : Int) : fup M p j v p j = v := by simp [fup]
theorem fup_ne {M : fMem} {p j : Nat} {v : Int} {q i : Nat} (h : ¬ (q = p ∧ i = j)) : fup M p j v q i = M q i := by simp [fup, h]
theorem fI_toInt {a : Int} (h : InI a) : (fI a).toInt = a := Int32.toInt_ofInt_of_le (by omega) (by omega)
theorem fL_toInt {a : Int} (h : InL a) : (fL a).toInt = a := Int64.toInt_ofInt_of_le (by omega) (by omega)
theorem fI_eq {a b : Int} (ha : InI a) (hb : InI b) : fI a = fI b ↔ a = b := by
  rw [← Int32.toInt_inj, fI_toInt ha, fI_toInt hb]
theorem fI_lt {a b : Int} (ha : InI a) (hb : InI b) : fI a < fI b ↔ a < b := by
  rw [Int32.lt_iff_toInt_lt, fI_toInt ha, fI_toInt hb]
theorem fI_le {a b : Int} (ha : InI a) (hb : InI b) : fI a ≤ fI b ↔ a ≤ b := by
  rw [Int32.le_iff_toInt_le, fI_toInt ha, fI_toInt hb]
theorem fL_eq {a b : Int} (ha : InL a) (hb : InL b) : fL a = fL b ↔ a = b := by
  rw [← Int64.toInt_inj, fL_toInt ha, fL_toInt hb]
theorem fL_lt {a b : Int} (ha : InL a) (hb : InL b) : fL a < fL b ↔ a < b := by
  rw [Int64.lt_iff_toInt_lt, fL_toInt ha, fL_toInt hb]
theorem fI_0 : fI 0 = 0 := by decide
theorem in0 : InI 0 := by decide
theorem fI_add (a b : Int) : fI a + fI b = fI (a + b) := (Int32.ofInt_add a b).symm
theorem fI_sub (a b : Int) : fI a - fI b = fI (a - b) := (Int32.ofInt_sub a b).symm
theorem fI_mul (a b : Int) : fI a * fI b = fI (a * b) := (Int32.ofInt_mul a b).symm
theorem fL_add (a b : Int) : fL a + fL b = fL (a + b) := (Int64.ofInt_add a b).symm
theorem fL_sub (a b : Int) : fL a - fL b = fL (a - b) := (Int64.ofInt_sub a b).symm
theorem fL_mul (a b : Int) : fL a * fL b = fL (a * b) := (Int64.ofInt_mul a b).symm
theorem fI_div {a b : Int} (ha : 0 ≤ a ∧ InI a) (hb : 0 < b ∧ InI b) : fI a / fI b = fI (a / b) := by
  have h := Int32.ofInt_tdiv (a := a) (b := b) (by rw [Int32.toInt_minValue]; omega) (by rw [Int32.toInt_maxValue]; omega) (by rw [Int32.toInt_minValue]; omega) (by rw [Int32.toInt_maxValue]; omega)
  rw [Int.tdiv_eq_ediv_of_nonneg ha.1] at h
  exact h.symm
theorem fI_rem {a b : Int} (ha : 0 ≤ a ∧ InI a) (hb : 0 < b ∧ InI b) : fI a - fI a / fI b * fI b = fI (a % b) := by
  rw [fI_div ha hb, fI_mul, fI_sub, Int.emod_def, Int.mul_comm b]
theorem fL_div {a b : Int} (ha : 0 ≤ a ∧ InL a) (hb : 0 < b ∧ InL b) : fL a / fL b = fL (a / b) := by
  have h := Int64.ofInt_tdiv (a := a) (b := b) (by rw [Int64.toInt_minValue]; omega) (by rw [Int64.toInt_maxValue]; omega) (by rw [Int64.toInt_minValue]; omega) (by rw [Int64.toInt_maxValue]; omega)
  rw [Int.tdiv_eq_ediv_of_nonneg ha.1] at h
  exact h.symm
theorem fL_rem {a b : Int} (ha : 0 ≤ a ∧ InL a) (hb : 0 < b ∧ InL b) : fL a - fL a / fL b * fL b = fL (a % b) := by
  rw [fL_div ha hb, fL_mul, fL_sub, Int.emod_def, Int.mul_comm b]
theorem fI_ne0 {b : Int} (hb : 0 < b ∧ InI b) : ¬ fI b = 0 := by
  rw [← fI_0, fI_eq hb.2 in0]; omega
theorem fL_ne0 {b : Int} (hb : 0 < b ∧ InL b) : ¬ fL b = 0 := by
  rw [show (0 : Int64) = fL 0 by decide, fL_eq hb.2 (by decide)]; omega
theorem fI_i2l {a : Int} (h : InI a) : (fI a).toInt64 = fL a :=
  Int32.toInt64_ofInt (by rw [Int32.toInt_minValue]; omega) (by rw [Int32.toInt_maxValue]; omega)
theorem fL_l2i (a : Int) : (fL a).toInt32 = fI a := Int64.toInt32_ofInt
theorem fI_clamp {a : Int} {n : Nat} (h : 0 ≤ a ∧ a < (n : Int)) (hn : n ≤ 2147483648) : (fI a).toNatClampNeg = a.toNat :=
  Int32.toNatClampNeg_ofInt_of_le (by omega) (by omega)
theorem fI_in {a : Int} {n : Nat} (h : 0 ≤ a ∧ a < (n : Int)) (hn : n ≤ 2147483648) : vp_in (fI a) n := by
  unfold vp_in
  rw [fI_clamp h hn, ← fI_0, fI_lt (by omega) in0]
  omega
theorem fI_ofNat (n : Nat) : Int32.ofNat n = fI (n : Int) := Int32.ofInt_eq_ofNat.symm
theorem fI_back (x : Int32) : fI x.toInt = x := Int32.ofInt_toInt x
theorem fL_back (x : Int64) : fL x.toInt = x := Int64.ofInt_toInt x
theorem fI_bool {a : Int} (h : a = 0 ∨ a = 1) : narrow .boolean (.int (fI a)) = .int (fI a) := by
  rcases h with rfl | rfl <;> decide
theorem fI_boolN {a : Int} (h : a = 0 ∨ a = 1) : vp_nar .boolean (fI a) = fI a := by
  unfold vp_nar
  rw [fI_bool h]
theorem fI_boolF {a : Int} (h : a = 0 ∨ a = 1) : fits .boolean (.int (fI a)) = true := by
  rcases h with rfl | rfl <;> decide
theorem fL_lN (n : Nat) : lN n = fL (n : Int) := Int64.ofInt_eq_ofNat.symm
theorem fI_s63 : ∀ k : Nat, k < 64 → (((fI (k : Int)).toInt64 &&& 63).toBitVec.smod 64).toNat = k := by decide +kernel
theorem fL_shr {t n : Int} (ht : 0 ≤ t ∧ t < 4611686018427387904) (hn : 0 ≤ n ∧ n < 64) : fL t >>> ((fI n).toInt64 &&& 63) = fL (t / 2 ^ n.toNat) := by
  obtain ⟨a, rfl⟩ := Int.eq_ofNat_of_zero_le ht.1
  obtain ⟨k, rfl⟩ := Int.eq_ofNat_of_zero_le hn.1
  have hk : k < 64 := by omega
  have ha : a < 2 ^ 62 := by omega
  have e := pf_shr (a := a) (d := k) (D := (fI (k : Int)).toInt64 &&& 63) (fI_s63 k hk) ha
  rw [fL_lN, fL_lN] at e
  rw [e]
  congr 1
theorem fL_and31 {t : Int} (ht : 0 ≤ t ∧ InL t) : fL t &&& fL 31 = fL (t % 32) := by
  obtain ⟨a, rfl⟩ := Int.eq_ofNat_of_zero_le ht.1
  have e := wb_mask (n := a) (k := 5) (by omega) (by decide)
  rw [fL_lN, fL_lN, fL_lN] at e
  exact e
/-! cells -/
def fRf (ad : Nat → Nat) (q : Option (Nat × Nat)) : Option Nat := match q with
  | some (2, x) => some (ad x)
  | _ => none
def fVal (ad : Nat → Nat) (x : Int) (q : Nat × Nat) : Value := match q with
  | (0, _) => .int (fI x)
  | (1, _) => .long (fL x)
  | (2, y) => .ref (ad y)
  | _ => .null
def fEnt (aC : Nat → ClassId) (ad : Nat → Nat) (Mp : Nat → Int) (e : fEn) : va_E := match e with
  | (0, n, _) => .inl (aC 0, n, .inl (fun j => fI (Mp j)))
  | (1, n, _) => .inl (aC 1, n, .inl (fun j => fI (Mp j)))
  | (2, n, _) => .inl (aC 2, n, .inr (.inl (fun j => fL (Mp j))))
  | (3, k, qs) => .inl (aC k, qs.length, .inr (.inr (.inr (.inr (fun j => fRf ad (qs[j]?))))))
  | (_, ci, fs) => .inr (ci, fs.mapIdx (fun k q => fVal ad (Mp k) q))
def fW (aC : Nat → ClassId) (ad : Nat → Nat) (tb : List fEn) (M : fMem) : va_W := tb.mapIdx (fun p e => (ad p, fEnt aC ad (M p) e))
theorem fW_get {aC : Nat → ClassId} {ad : Nat → Nat} {tb : List fEn} {M : fMem} {p : Nat} {e : fEn} (h : tb[p]? = some e) : (fW aC ad tb M)[p]? = some (ad p, fEnt aC ad (M p) e) := by
  simp [fW, h]
theorem fW_of {aC : Nat → ClassId} {ad : Nat → Nat} {tb : List fEn} {M : fMem} {p : Nat} {x : Nat × va_E} (h : (fW aC ad tb M)[p]? = some x) : ∃ e, tb[p]? = some e ∧ x = (ad p, fEnt aC ad (M p) e) := by
  unfold fW at h
  rw [List.getElem?_mapIdx] at h
  cases he : tb[p]? with
  | none => rw [he] at h; cases h
  | some e => rw [he] at h; exact ⟨e, rfl, (Option.some.inj h).symm⟩
theorem fW_set {aC : Nat → ClassId} {ad : Nat → Nat} {tb : List fEn} {M M' : fMem} {p : Nat} {e : fEn} {E : va_E} (h : tb[p]? = some e) (hE : E = fEnt aC ad (M' p) e) (hM : ∀ q, q ≠ p → M' q = M q) : (fW aC ad tb M).set p (ad p, E) = fW aC ad tb M' := by
  subst hE
  have hl : p < (fW aC ad tb M).length := by
    have := (List.getElem?_eq_some_iff.mp h).1
    simpa [fW] using this
  apply List.ext_getElem?
  intro k
  by_cases hk : k = p
  · subst hk
    rw [List.getElem?_set_self hl, fW_get h]
  · rw [List.getElem?_set_ne (Ne.symm hk)]
    simp only [fW, List.getElem?_mapIdx, hM k hk]
def fInj (ad : Nat → Nat) (n : Nat) : Prop := ∀ i j, i < n → j < n → ad i = ad j → i = j
theorem fW_D {aC : Nat → ClassId} {ad : Nat → Nat} {tb : List fEn} {M : fMem} {A : Nat → Prop} (hi : fInj ad tb.length) (hA : ∀ i, i < tb.length → A (ad i)) : va_D A (fW aC ad tb M) := by
  refine ⟨fun i j x y hx hy hxy => ?_, fun k q hk => ?_⟩
  · obtain ⟨e1, h1, rfl⟩ := fW_of hx
    obtain ⟨e2, h2, rfl⟩ := fW_of hy
    exact hi i j (List.getElem?_eq_some_iff.mp h1).1 (List.getElem?_eq_some_iff.mp h2).1 hxy
  · obtain ⟨e1, h1, rfl⟩ := fW_of hk
    exact hA k (List.getElem?_eq_some_iff.mp h1).1
theorem fup_row (M : fMem) (p j : Nat) (v : Int) : fup M p j v p = fun i => if i = j then v else M p i := by
  funext i
  simp [fup]
theorem fup_off (M : fMem) (p j : Nat) (v : Int) (q : Nat) (h : q ≠ p) : fup M p j v q = M q := by
  funext i
  simp [fup, h]
end
section
/-! The judgement of a walk over a flat world, and its rows. -/
/-! the words that go along with a call, and those of nest mates, which go beside -/
def goodTs : List Cond := lw_tbl.filter goodWord
theorem goodTs_mem {w : Cond} (h : w ∈ lw_tbl) (hg : goodWord w = true) : w ∈ goodTs := List.mem_filter.mpr ⟨h, hg⟩
theorem goodTs_in {w0 : Cond} {ws : List Cond} (h0 : w0 ∈ goodTs) (hw : ws = w0 :: goodTs) : GoodIn goodTs ws := by
  subst hw
  intro w h
  rcases List.mem_cons.mp h with rfl | h
  · exact ⟨h0, good_of_word (List.mem_filter.mp h0).2⟩
  · exact ⟨h, good_of_word (List.mem_filter.mp h).2⟩
def nestW : Cond → Bool
  | .fieldLinkNest _ _ _ _ _ _ => true
  | .methodLinkNest _ _ _ _ => true
  | _ => false
theorem nestW_tab {w : Cond} (h : nestW w = true) : w.onTables = true := by
  cases w <;> first | rfl | cases h
def fNw (U : State) : Prop := ∀ w ∈ lw_tbl, nestW w = true → va_Nw w U
theorem fNw.warm {s U : State} (hW : s.WarmedH U.vm) (h : fNw s) : fNw U := by
  intro w hw hn
  have h1 := h w hw hn
  cases w <;> first | exact va_Nw.warmF hW h1 | exact va_Nw.warmM hW h1 | cases hn
theorem fNw.same {u U : State} (h : u.vm = U.vm) (hn : fNw u) : fNw U := fun w hw hz => va_Nw.same (nestW_tab hz) h (hn w hw hz)
def fTY (aC : Nat → ClassId) : List (ClassId × FieldType) := [(aC 0, .int), (aC 1, .boolean), (aC 2, .long), (aC 3, .object "RevisionStore$History"), (aC 4, .object "RevisionStore$Copy"), (aC 5, .array .int)]
abbrev fOp : Type := Option (Int × fMem)
/-- what a walk stands on -/
def fCx (p : Program) (s : State) (m : MethodId) (args : Array Value) (c : Code) (cl : List vw_C) (D : va_G) (aC : Nat → ClassId) (tb : List fEn) (ad : Nat → Nat) (A : Nat → Prop) (Ts : List Cond) (cc : ByteArray) (own : String) (nL : Nat) : Prop :=
  p.tables.exec = Jvm.exec ∧ c.code = cc ∧ c.maxLocals = nL ∧ s.vm.findClass own = some m.cls ∧ (∀ w ∈ Ts, w.before args s = true) ∧ va_K D cl (fTY aC) s ∧ fInj ad tb.length ∧ (∀ i, i < tb.length → A (ad i)) ∧ fNw s
def GO (p : Program) (l : Launch) (e : Env) (R : Room) (s : State) (m : MethodId) (args : Array Value) (below : List Frame) (meth : Method) (c : Code) (cl : List vw_C) (D : va_G) (aC : Nat → ClassId) (tb : List fEn) (ad : Nat → Nat) (A : Nat → Prop) (nL cells slots : Nat) (Qf : Int × fMem → State → Prop) (pc : Nat) (lv : List (Nat × Value)) (st : List Value) (M : fMem) (d : fOp) : Prop :=
  ∀ r, d = some r → ∀ (H : Heap) (locs : List Loc) (ls : Array Slot), lv_has ls nL lv → va_P D cl (fW aC ad tb M) H → va_S A s.heap H locs → W p l e R s m args below meth c H locs cells slots (Qf r) (F0 m pc ls st)
/-! what the walk computes: in the order of the instructions, 'none' where an instruction would leave the plain road -/
section FD
variable {α : Type}
def fEq (a b : Int) (x y : Option α) : Option α := if InI a ∧ InI b then (if a = b then x else y) else none
def fLt (a b : Int) (x y : Option α) : Option α := if InI a ∧ InI b then (if a < b then x else y) else none
def fLe (a b : Int) (x y : Option α) : Option α := if InI a ∧ InI b then (if a ≤ b then x else y) else none
def fEqL (a b : Int) (x y : Option α) : Option α := if InL a ∧ InL b then (if a = b then x else y) else none
def fLtL (a b : Int) (x y : Option α) : Option α := if InL a ∧ InL b then (if a < b then x else y) else none
def fLeL (a b : Int) (x y : Option α) : Option α := if InL a ∧ InL b then (if a ≤ b then x else y) else none
def fDvI (a b : Int) (k : Int → Option α) : Option α := if (0 ≤ a ∧ InI a) ∧ (0 < b ∧ InI b) then k (a / b) else none
def fRmI (a b : Int) (k : Int → Option α) : Option α := if (0 ≤ a ∧ InI a) ∧ (0 < b ∧ InI b) then k (a % b) else none
def fDvL (a b : Int) (k : Int → Option α) : Option α := if (0 ≤ a ∧ InL a) ∧ (0 < b ∧ InL b) then k (a / b) else none
def fRmL (a b : Int) (k : Int → Option α) : Option α := if (0 ≤ a ∧ InL a) ∧ (0 < b ∧ InL b) then k (a % b) else none
def fX2 (a : Int) (k : Option α) : Option α := if InI a then k else none
def fGt (M : fMem) (q j : Nat) (k : Int → Option α) : Option α := k (M q j)
def fPt (M : fMem) (q j : Nat) (v : Int) (k : fMem → Option α) : Option α := k (fup M q j v)
def fRd (M : fMem) (q n : Nat) (i : Int) (k : Int → Option α) : Option α := if 0 ≤ i ∧ i < (n : Int) then k (M q i.toNat) else none
def fIx (n b t : Nat) (i : Int) (k : Nat → Option α) : Option α := if 0 ≤ i ∧ i < (n : Int) then k (b + t * i.toNat) else none
def fWr (M : fMem) (q n : Nat) (i v : Int) (k : fMem → Option α) : Option α := if 0 ≤ i ∧ i < (n : Int) then k (fup M q i.toNat v) else none
def fWz (M : fMem) (q n : Nat) (i v : Int) (k : fMem → Option α) : Option α := if (0 ≤ i ∧ i < (n : Int)) ∧ (v = 0 ∨ v = 1) then k (fup M q i.toNat v) else none
def fPz (M : fMem) (q j : Nat) (v : Int) (k : fMem → Option α) : Option α := if v = 0 ∨ v = 1 then k (fup M q j v) else none
def fCl (d : fOp) (k : Int → fMem → Option α) : Option α := match d with
  | some (v, M) => k v M
  | none => none
def fRz (v : Int) (M : fMem) : fOp := if v = 0 ∨ v = 1 then some (v, M) else none
def fCk (v : Int) (k : Nat → Option α) : Option α := if 47 ≤ v.toNat ∧ v.toNat < 59 then k v.toNat else none
def fSh (t n : Int) (k : Int → Option α) : Option α := if (0 ≤ t ∧ t < 4611686018427387904) ∧ (0 ≤ n ∧ n < 64) then k (t / 2 ^ n.toNat) else none
def fA31 (t : Int) (k : Int → Option α) : Option α := if 0 ≤ t ∧ InL t then k (t % 32) else none
end FD
theorem fEnt_put {aC : Nat → ClassId} {ad : Nat → Nat} {M : fMem} {q kf ci : Nat} {fs : List (Nat × Nat)} {x : Nat × Nat} {v : Int} {w : Value} (hf : fs[kf]? = some x) (hw : fVal ad v x = w) : fEnt aC ad (fup M q kf v q) (4, ci, fs) = .inr (ci, (fs.mapIdx (fun k q' => fVal ad (M q k) q')).set kf w) := by
  have hlt : kf < fs.length := (List.getElem?_eq_some_iff.mp hf).1
  show (Sum.inr (ci, fs.mapIdx (fun k q' => fVal ad (fup M q kf v q k) q')) : va_E) = _
  congr 2
  apply List.ext_getElem?
  intro j
  rw [List.getElem?_mapIdx, fup_row]
  by_cases hj : j = kf
  · subst hj
    rw [List.getElem?_set_self (by simpa using hlt), hf, ← hw]
    simp
  · rw [List.getElem?_set_ne (Ne.symm hj), List.getElem?_mapIdx]
    simp [hj]
section FW
variable {p : Program} {l : Launch} {e : Env} {R : Room} {s : State} {m : MethodId} {args : Array Value} {below : List Frame} {meth : Method} {c : Code} {cl : List vw_C} {D : va_G} {aC : Nat → ClassId} {tb : List fEn} {ad : Nat → Nat} {A : Nat → Prop} {nL cells slots : Nat} {Qf : Int × fMem → State → Prop}
variable {Ts : List Cond} {cc : ByteArray} {own : String} {pc : Nat} {lv : List (Nat × Value)} {st : List Value} {M : fMem} {d : fOp}
theorem g_none : GO p l e R s m args below meth c cl D aC tb ad A nL cells slots Qf pc lv st M none := fun _ h => by cases h
theorem g_lv {lv' : List (Nat × Value)} (ks : List Nat) (hl : lv_pick lv ks = lv') (k : GO p l e R s m args below meth c cl D aC tb ad A nL cells slots Qf pc lv' st M d) : GO p l e R s m args below meth c cl D aC tb ad A nL cells slots Qf pc lv st M d :=
  fun r hr H locs ls h hP hS => k r hr H locs ls (lv_sub h ks hl) hP hS
theorem g_iconst (hC : fCx p s m args c cl D aC tb ad A Ts cc own nL) {n : Int} (pc' : Nat) (hd : decode cc pc = .ok (.iconst n, 1)) (hp : pc + 1 = pc')
    (k : GO p l e R s m args below meth c cl D aC tb ad A nL cells slots Qf pc' lv (.int (fI n) :: st) M d) : GO p l e R s m args below meth c cl D aC tb ad A nL cells slots Qf pc lv st M d := by
  subst hp
  exact fun r hr H locs ls hl hP hS => lv_iconst hC.1 hC.2.1 hd rfl (k r hr H locs ls hl hP hS)
theorem g_bipush (hC : fCx p s m args c cl D aC tb ad A Ts cc own nL) {n : Int} (pc' : Nat) (hd : decode cc pc = .ok (.bipush n, 2)) (hp : pc + 2 = pc') (hv : (Int8.ofInt n).toInt32 = fI n)
    (k : GO p l e R s m args below meth c cl D aC tb ad A nL cells slots Qf pc' lv (.int (fI n) :: st) M d) : GO p l e R s m args below meth c cl D aC tb ad A nL cells slots Qf pc lv st M d := by
  subst hp
  exact fun r hr H locs ls hl hP hS => lv_bipush hC.1 hC.2.1 hd hv (k r hr H locs ls hl hP hS)
theorem g_sipush (hC : fCx p s m args c cl D aC tb ad A Ts cc own nL) {n : Int} (pc' : Nat) (hd : decode cc pc = .ok (.sipush n, 3)) (hp : pc + 3 = pc') (hv : (Int16.ofInt n).toInt32 = fI n)
    (k : GO p l e R s m args below meth c cl D aC tb ad A nL cells slots Qf pc' lv (.int (fI n) :: st) M d) : GO p l e R s m args below meth c cl D aC tb ad A nL cells slots Qf pc lv st M d := by
  subst hp
  exact fun r hr H locs ls hl hP hS => lv_sipush hC.1 hC.2.1 hd hv (k r hr H locs ls hl hP hS)
theorem g_lconst (hC : fCx p s m args c cl D aC tb ad A Ts cc own nL) {n : Fin 2} (a : Int) (pc' : Nat) (hd : decode cc pc = .ok (.lconst n, 1)) (hp : pc + 1 = pc') (hv : Int64.ofNat (n : Nat) = fL a)
    (k : GO p l e R s m args below meth c cl D aC tb ad A nL cells slots Qf pc' lv (.long (fL a) :: st) M d) : GO p l e R s m args below meth c cl D aC tb ad A nL cells slots Qf pc lv st M d := by
  subst hp
  exact fun r hr H locs ls hl hP hS => lv_lconst hC.1 hC.2.1 hd hv (k r hr H locs ls hl hP hS)
theorem g_ldc (hC : fCx p s m args c cl D aC tb ad A Ts cc own nL) {i : Nat} (a : Int) (pc' : Nat) (hw : Cond.constant own i (fI a) ∈ Ts) (hd : decode cc pc = .ok (.ldc i, 2)) (hp : pc + 2 = pc')
    (k : GO p l e R s m args below meth c cl D aC tb ad A nL cells slots Qf pc' lv (.int (fI a) :: st) M d) : GO p l e R s m args below meth c cl D aC tb ad A nL cells slots Qf pc lv st M d := by
  subst hp
  exact fun r hr H locs ls hl hP hS => lv_ldc hC.1 hC.2.1 hC.2.2.2.1 (hC.2.2.2.2.1 _ hw) hd (k r hr H locs ls hl hP hS)
theorem g_ldc2 (hC : fCx p s m args c cl D aC tb ad A Ts cc own nL) {i : Nat} (a : Int) (pc' : Nat) (hw : Cond.constantLong own i (fL a) ∈ Ts) (hd : decode cc pc = .ok (.ldc2_w i, 3)) (hp : pc + 3 = pc')
    (k : GO p l e R s m args below meth c cl D aC tb ad A nL cells slots Qf pc' lv (.long (fL a) :: st) M d) : GO p l e R s m args below meth c cl D aC tb ad A nL cells slots Qf pc lv st M d := by
  subst hp
  exact fun r hr H locs ls hl hP hS => lv_ldc2 hC.1 hC.2.1 hC.2.2.2.1 (hC.2.2.2.2.1 _ hw) hd (k r hr H locs ls hl hP hS)
theorem g_iload_n (hC : fCx p s m args c cl D aC tb ad A Ts cc own nL) {z : Fin 4} {x : Int32} {i : Nat} (j pc' : Nat) (hj : lv[j]? = some (i, .int x)) (hd : decode cc pc = .ok (.iload_n z, 1)) (hi : (z : Nat) = i) (hp : pc + 1 = pc')
    (k : GO p l e R s m args below meth c cl D aC tb ad A nL cells slots Qf pc' lv (.int x :: st) M d) : GO p l e R s m args below meth c cl D aC tb ad A nL cells slots Qf pc lv st M d := by
  subst hp
  exact fun r hr H locs ls hl hP hS => lv_iload_n hC.1 hC.2.1 hd hi (lv_at hl j hj) (k r hr H locs ls hl hP hS)
theorem g_iload (hC : fCx p s m args c cl D aC tb ad A Ts cc own nL) {x : Int32} {i : Nat} (j pc' : Nat) (hj : lv[j]? = some (i, .int x)) (hd : decode cc pc = .ok (.iload i, 2)) (hp : pc + 2 = pc')
    (k : GO p l e R s m args below meth c cl D aC tb ad A nL cells slots Qf pc' lv (.int x :: st) M d) : GO p l e R s m args below meth c cl D aC tb ad A nL cells slots Qf pc lv st M d := by
  subst hp
  exact fun r hr H locs ls hl hP hS => lv_iload hC.1 hC.2.1 hd (lv_at hl j hj) (k r hr H locs ls hl hP hS)
theorem g_lload_n (hC : fCx p s m args c cl D aC tb ad A Ts cc own nL) {z : Fin 4} {x : Int64} {i : Nat} (j pc' : Nat) (hj : lv[j]? = some (i, .long x)) (hd : decode cc pc = .ok (.lload_n z, 1)) (hi : (z : Nat) = i) (hp : pc + 1 = pc')
    (k : GO p l e R s m args below meth c cl D aC tb ad A nL cells slots Qf pc' lv (.long x :: st) M d) : GO p l e R s m args below meth c cl D aC tb ad A nL cells slots Qf pc lv st M d := by
  subst hp
  exact fun r hr H locs ls hl hP hS => lv_lload_n hC.1 hC.2.1 hd hi (lv_at hl j hj) (k r hr H locs ls hl hP hS)
theorem g_lload (hC : fCx p s m args c cl D aC tb ad A Ts cc own nL) {x : Int64} {i : Nat} (j pc' : Nat) (hj : lv[j]? = some (i, .long x)) (hd : decode cc pc = .ok (.lload i, 2)) (hp : pc + 2 = pc')
    (k : GO p l e R s m args below meth c cl D aC tb ad A nL cells slots Qf pc' lv (.long x :: st) M d) : GO p l e R s m args below meth c cl D aC tb ad A nL cells slots Qf pc lv st M d := by
  subst hp
  exact fun r hr H locs ls hl hP hS => lv_lload hC.1 hC.2.1 hd (lv_at hl j hj) (k r hr H locs ls hl hP hS)
theorem g_aload_n (hC : fCx p s m args c cl D aC tb ad A Ts cc own nL) {z : Fin 4} {x : Nat} {i : Nat} (j pc' : Nat) (hj : lv[j]? = some (i, .ref x)) (hd : decode cc pc = .ok (.aload_n z, 1)) (hi : (z : Nat) = i) (hp : pc + 1 = pc')
    (k : GO p l e R s m args below meth c cl D aC tb ad A nL cells slots Qf pc' lv (.ref x :: st) M d) : GO p l e R s m args below meth c cl D aC tb ad A nL cells slots Qf pc lv st M d := by
  subst hp
  exact fun r hr H locs ls hl hP hS => lv_aload_n hC.1 hC.2.1 hd hi (lv_at hl j hj) (k r hr H locs ls hl hP hS)
theorem g_aload (hC : fCx p s m args c cl D aC tb ad A Ts cc own nL) {x : Nat} {i : Nat} (j pc' : Nat) (hj : lv[j]? = some (i, .ref x)) (hd : decode cc pc = .ok (.aload i, 2)) (hp : pc + 2 = pc')
    (k : GO p l e R s m args below meth c cl D aC tb ad A nL cells slots Qf pc' lv (.ref x :: st) M d) : GO p l e R s m args below meth c cl D aC tb ad A nL cells slots Qf pc lv st M d := by
  subst hp
  exact fun r hr H locs ls hl hP hS => lv_aload hC.1 hC.2.1 hd (lv_at hl j hj) (k r hr H locs ls hl hP hS)
theorem g_istore_n (hC : fCx p s m args c cl D aC tb ad A Ts cc own nL) {z : Fin 4} {x : Int32} {i : Nat} (pc' : Nat) (lv' : List (Nat × Value)) (hd : decode cc pc = .ok (.istore_n z, 1)) (hi : (z : Nat) = i) (hn : i < nL) (hl : (i, Value.int x) :: lv.filter (fun q => !(q.1 == i) && !(q.1 + 1 == i && q.2.category == 2)) = lv') (hp : pc + 1 = pc')
    (k : GO p l e R s m args below meth c cl D aC tb ad A nL cells slots Qf pc' lv' st M d) : GO p l e R s m args below meth c cl D aC tb ad A nL cells slots Qf pc lv (.int x :: st) M d := by
  subst hp
  exact fun r hr H locs ls h hP hS => lv_istore_n hC.1 hC.2.1 hd hi h hn hl (fun ls' h' => k r hr H locs ls' h' hP hS)
theorem g_istore (hC : fCx p s m args c cl D aC tb ad A Ts cc own nL) {x : Int32} {i : Nat} (pc' : Nat) (lv' : List (Nat × Value)) (hd : decode cc pc = .ok (.istore i, 2)) (hn : i < nL) (hl : (i, Value.int x) :: lv.filter (fun q => !(q.1 == i) && !(q.1 + 1 == i && q.2.category == 2)) = lv') (hp : pc + 2 = pc')
    (k : GO p l e R s m args below meth c cl D aC tb ad A nL cells slots Qf pc' lv' st M d) : GO p l e R s m args below meth c cl D aC tb ad A nL cells slots Qf pc lv (.int x :: st) M d := by
  subst hp
  exact fun r hr H locs ls h hP hS => lv_istore hC.1 hC.2.1 hd h hn hl (fun ls' h' => k r hr H locs ls' h' hP hS)
theorem g_lstore_n (hC : fCx p s m args c cl D aC tb ad A Ts cc own nL) {z : Fin 4} {x : Int64} {i : Nat} (pc' : Nat) (lv' : List (Nat × Value)) (hd : decode cc pc = .ok (.lstore_n z, 1)) (hi : (z : Nat) = i) (hn : i + 1 < nL) (hl : (i, Value.long x) :: lv.filter (fun q => !(q.1 == i) && (!(q.1 == i + 1) && !(q.1 + 1 == i && q.2.category == 2))) = lv') (hp : pc + 1 = pc')
    (k : GO p l e R s m args below meth c cl D aC tb ad A nL cells slots Qf pc' lv' st M d) : GO p l e R s m args below meth c cl D aC tb ad A nL cells slots Qf pc lv (.long x :: st) M d := by
  subst hp
  exact fun r hr H locs ls h hP hS => lv_lstore_n hC.1 hC.2.1 hd hi h hn hl (fun ls' h' => k r hr H locs ls' h' hP hS)
theorem g_lstore (hC : fCx p s m args c cl D aC tb ad A Ts cc own nL) {x : Int64} {i : Nat} (pc' : Nat) (lv' : List (Nat × Value)) (hd : decode cc pc = .ok (.lstore i, 2)) (hn : i + 1 < nL) (hl : (i, Value.long x) :: lv.filter (fun q => !(q.1 == i) && (!(q.1 == i + 1) && !(q.1 + 1 == i && q.2.category == 2))) = lv') (hp : pc + 2 = pc')
    (k : GO p l e R s m args below meth c cl D aC tb ad A nL cells slots Qf pc' lv' st M d) : GO p l e R s m args below meth c cl D aC tb ad A nL cells slots Qf pc lv (.long x :: st) M d := by
  subst hp
  exact fun r hr H locs ls h hP hS => lv_lstore hC.1 hC.2.1 hd h hn hl (fun ls' h' => k r hr H locs ls' h' hP hS)
theorem g_astore_n (hC : fCx p s m args c cl D aC tb ad A Ts cc own nL) {z : Fin 4} {x : Nat} {i : Nat} (pc' : Nat) (lv' : List (Nat × Value)) (hd : decode cc pc = .ok (.astore_n z, 1)) (hi : (z : Nat) = i) (hn : i < nL) (hl : (i, Value.ref x) :: lv.filter (fun q => !(q.1 == i) && !(q.1 + 1 == i && q.2.category == 2)) = lv') (hp : pc + 1 = pc')
    (k : GO p l e R s m args below meth c cl D aC tb ad A nL cells slots Qf pc' lv' st M d) : GO p l e R s m args below meth c cl D aC tb ad A nL cells slots Qf pc lv (.ref x :: st) M d := by
  subst hp
  exact fun r hr H locs ls h hP hS => lv_astore_n hC.1 hC.2.1 hd hi h hn hl (fun ls' h' => k r hr H locs ls' h' hP hS)
theorem g_astore (hC : fCx p s m args c cl D aC tb ad A Ts cc own nL) {x : Nat} {i : Nat} (pc' : Nat) (lv' : List (Nat × Value)) (hd : decode cc pc = .ok (.astore i, 2)) (hn : i < nL) (hl : (i, Value.ref x) :: lv.filter (fun q => !(q.1 == i) && !(q.1 + 1 == i && q.2.category == 2)) = lv') (hp : pc + 2 = pc')
    (k : GO p l e R s m args below meth c cl D aC tb ad A nL cells slots Qf pc' lv' st M d) : GO p l e R s m args below meth c cl D aC tb ad A nL cells slots Qf pc lv (.ref x :: st) M d := by
  subst hp
  exact fun r hr H locs ls h hP hS => lv_astore hC.1 hC.2.1 hd h hn hl (fun ls' h' => k r hr H locs ls' h' hP hS)
theorem g_iinc (hC : fCx p s m args c cl D aC tb ad A Ts cc own nL) {n a : Int} {i : Nat} (j pc' : Nat) (lv' : List (Nat × Value)) (hj : lv[j]? = some (i, .int (fI a))) (hd : decode cc pc = .ok (.iinc i n, 3)) (hn : i < nL) (hl : (i, Value.int (fI (a + n))) :: lv.filter (fun q => !(q.1 == i) && !(q.1 + 1 == i && q.2.category == 2)) = lv') (hp : pc + 3 = pc')
    (k : GO p l e R s m args below meth c cl D aC tb ad A nL cells slots Qf pc' lv' st M d) : GO p l e R s m args below meth c cl D aC tb ad A nL cells slots Qf pc lv st M d := by
  subst hp
  exact fun r hr H locs ls h hP hS => lv_iinc hC.1 hC.2.1 hd h hj (fI_add a n) hn hl (fun ls' h' => k r hr H locs ls' h' hP hS)
theorem g_iadd (hC : fCx p s m args c cl D aC tb ad A Ts cc own nL) {a b : Int} (pc' : Nat) (hd : decode cc pc = .ok (.iadd, 1)) (hp : pc + 1 = pc')
    (k : GO p l e R s m args below meth c cl D aC tb ad A nL cells slots Qf pc' lv (.int (fI (a + b)) :: st) M d) : GO p l e R s m args below meth c cl D aC tb ad A nL cells slots Qf pc lv (.int (fI b) :: .int (fI a) :: st) M d := by
  subst hp
  exact fun r hr H locs ls hl hP hS => lv_iadd hC.1 hC.2.1 hd (by rw [fI_add]; exact k r hr H locs ls hl hP hS)
theorem g_isub (hC : fCx p s m args c cl D aC tb ad A Ts cc own nL) {a b : Int} (pc' : Nat) (hd : decode cc pc = .ok (.isub, 1)) (hp : pc + 1 = pc')
    (k : GO p l e R s m args below meth c cl D aC tb ad A nL cells slots Qf pc' lv (.int (fI (a - b)) :: st) M d) : GO p l e R s m args below meth c cl D aC tb ad A nL cells slots Qf pc lv (.int (fI b) :: .int (fI a) :: st) M d := by
  subst hp
  exact fun r hr H locs ls hl hP hS => lv_isub hC.1 hC.2.1 hd (by rw [fI_sub]; exact k r hr H locs ls hl hP hS)
theorem g_imul (hC : fCx p s m args c cl D aC tb ad A Ts cc own nL) {a b : Int} (pc' : Nat) (hd : decode cc pc = .ok (.imul, 1)) (hp : pc + 1 = pc')
    (k : GO p l e R s m args below meth c cl D aC tb ad A nL cells slots Qf pc' lv (.int (fI (a * b)) :: st) M d) : GO p l e R s m args below meth c cl D aC tb ad A nL cells slots Qf pc lv (.int (fI b) :: .int (fI a) :: st) M d := by
  subst hp
  exact fun r hr H locs ls hl hP hS => lv_imul hC.1 hC.2.1 hd (by rw [fI_mul]; exact k r hr H locs ls hl hP hS)
theorem g_ladd (hC : fCx p s m args c cl D aC tb ad A Ts cc own nL) {a b : Int} (pc' : Nat) (hd : decode cc pc = .ok (.ladd, 1)) (hp : pc + 1 = pc')
    (k : GO p l e R s m args below meth c cl D aC tb ad A nL cells slots Qf pc' lv (.long (fL (a + b)) :: st) M d) : GO p l e R s m args below meth c cl D aC tb ad A nL cells slots Qf pc lv (.long (fL b) :: .long (fL a) :: st) M d := by
  subst hp
  exact fun r hr H locs ls hl hP hS => lv_ladd hC.1 hC.2.1 hd (by rw [fL_add]; exact k r hr H locs ls hl hP hS)
theorem g_lmul (hC : fCx p s m args c cl D aC tb ad A Ts cc own nL) {a b : Int} (pc' : Nat) (hd : decode cc pc = .ok (.lmul, 1)) (hp : pc + 1 = pc')
    (k : GO p l e R s m args below meth c cl D aC tb ad A nL cells slots Qf pc' lv (.long (fL (a * b)) :: st) M d) : GO p l e R s m args below meth c cl D aC tb ad A nL cells slots Qf pc lv (.long (fL b) :: .long (fL a) :: st) M d := by
  subst hp
  exact fun r hr H locs ls hl hP hS => lv_lmul hC.1 hC.2.1 hd (by rw [fL_mul]; exact k r hr H locs ls hl hP hS)
theorem g_idiv (hC : fCx p s m args c cl D aC tb ad A Ts cc own nL) {a b : Int} {kd : Int → fOp} (pc' : Nat) (hd : decode cc pc = .ok (.idiv, 1)) (hp : pc + 1 = pc')
    (k : ∀ x : Int, GO p l e R s m args below meth c cl D aC tb ad A nL cells slots Qf pc' lv (.int (fI x) :: st) M (kd x)) : GO p l e R s m args below meth c cl D aC tb ad A nL cells slots Qf pc lv (.int (fI b) :: .int (fI a) :: st) M (fDvI a b kd) := by
  subst hp
  intro r hr H locs ls hl hP hS
  unfold fDvI at hr
  split at hr
  · rename_i h
    exact lv_idiv hC.1 hC.2.1 hd (fI_ne0 h.2) (by rw [fI_div h.1 h.2]; exact k _ r hr H locs ls hl hP hS)
  · cases hr
theorem g_irem (hC : fCx p s m args c cl D aC tb ad A Ts cc own nL) {a b : Int} {kd : Int → fOp} (pc' : Nat) (hd : decode cc pc = .ok (.irem, 1)) (hp : pc + 1 = pc')
    (k : ∀ x : Int, GO p l e R s m args below meth c cl D aC tb ad A nL cells slots Qf pc' lv (.int (fI x) :: st) M (kd x)) : GO p l e R s m args below meth c cl D aC tb ad A nL cells slots Qf pc lv (.int (fI b) :: .int (fI a) :: st) M (fRmI a b kd) := by
  subst hp
  intro r hr H locs ls hl hP hS
  unfold fRmI at hr
  split at hr
  · rename_i h
    exact lv_irem hC.1 hC.2.1 hd (fI_ne0 h.2) (by rw [fI_rem h.1 h.2]; exact k _ r hr H locs ls hl hP hS)
  · cases hr
theorem g_ldiv (hC : fCx p s m args c cl D aC tb ad A Ts cc own nL) {a b : Int} {kd : Int → fOp} (pc' : Nat) (hd : decode cc pc = .ok (.ldiv, 1)) (hp : pc + 1 = pc')
    (k : ∀ x : Int, GO p l e R s m args below meth c cl D aC tb ad A nL cells slots Qf pc' lv (.long (fL x) :: st) M (kd x)) : GO p l e R s m args below meth c cl D aC tb ad A nL cells slots Qf pc lv (.long (fL b) :: .long (fL a) :: st) M (fDvL a b kd) := by
  subst hp
  intro r hr H locs ls hl hP hS
  unfold fDvL at hr
  split at hr
  · rename_i h
    exact lv_ldiv hC.1 hC.2.1 hd (fL_ne0 h.2) (by rw [fL_div h.1 h.2]; exact k _ r hr H locs ls hl hP hS)
  · cases hr
theorem g_lrem (hC : fCx p s m args c cl D aC tb ad A Ts cc own nL) {a b : Int} {kd : Int → fOp} (pc' : Nat) (hd : decode cc pc = .ok (.lrem, 1)) (hp : pc + 1 = pc')
    (k : ∀ x : Int, GO p l e R s m args below meth c cl D aC tb ad A nL cells slots Qf pc' lv (.long (fL x) :: st) M (kd x)) : GO p l e R s m args below meth c cl D aC tb ad A nL cells slots Qf pc lv (.long (fL b) :: .long (fL a) :: st) M (fRmL a b kd) := by
  subst hp
  intro r hr H locs ls hl hP hS
  unfold fRmL at hr
  split at hr
  · rename_i h
    exact lv_lrem hC.1 hC.2.1 hd (fL_ne0 h.2) (by rw [fL_rem h.1 h.2]; exact k _ r hr H locs ls hl hP hS)
  · cases hr
theorem g_i2l (hC : fCx p s m args c cl D aC tb ad A Ts cc own nL) {a : Int} (pc' : Nat) (hd : decode cc pc = .ok (.i2l, 1)) (hp : pc + 1 = pc')
    (k : GO p l e R s m args below meth c cl D aC tb ad A nL cells slots Qf pc' lv (.long (fL a) :: st) M d) : GO p l e R s m args below meth c cl D aC tb ad A nL cells slots Qf pc lv (.int (fI a) :: st) M (fX2 a d) := by
  subst hp
  intro r hr H locs ls hl hP hS
  unfold fX2 at hr
  split at hr
  · rename_i h
    exact lv_i2l hC.1 hC.2.1 hd (fI_i2l h) (k r hr H locs ls hl hP hS)
  · cases hr
theorem g_l2i (hC : fCx p s m args c cl D aC tb ad A Ts cc own nL) {a : Int} (pc' : Nat) (hd : decode cc pc = .ok (.l2i, 1)) (hp : pc + 1 = pc')
    (k : GO p l e R s m args below meth c cl D aC tb ad A nL cells slots Qf pc' lv (.int (fI a) :: st) M d) : GO p l e R s m args below meth c cl D aC tb ad A nL cells slots Qf pc lv (.long (fL a) :: st) M d := by
  subst hp
  exact fun r hr H locs ls hl hP hS => lv_l2i hC.1 hC.2.1 hd (fL_l2i a) (k r hr H locs ls hl hP hS)
theorem g_dup (hC : fCx p s m args c cl D aC tb ad A Ts cc own nL) {v : Value} (pc' : Nat) (hd : decode cc pc = .ok (.dup, 1)) (hv : v.category = 1) (hp : pc + 1 = pc')
    (k : GO p l e R s m args below meth c cl D aC tb ad A nL cells slots Qf pc' lv (v :: v :: st) M d) : GO p l e R s m args below meth c cl D aC tb ad A nL cells slots Qf pc lv (v :: st) M d := by
  subst hp
  exact fun r hr H locs ls hl hP hS => lv_dup hC.1 hC.2.1 hd hv (k r hr H locs ls hl hP hS)
theorem g_dup2 (hC : fCx p s m args c cl D aC tb ad A Ts cc own nL) {v w : Value} (pc' : Nat) (hd : decode cc pc = .ok (.dup2, 1)) (hv : v.category = 1) (hw : w.category = 1) (hp : pc + 1 = pc')
    (k : GO p l e R s m args below meth c cl D aC tb ad A nL cells slots Qf pc' lv (v :: w :: v :: w :: st) M d) : GO p l e R s m args below meth c cl D aC tb ad A nL cells slots Qf pc lv (v :: w :: st) M d := by
  subst hp
  exact fun r hr H locs ls hl hP hS => lv_dup2_11 hC.1 hC.2.1 hd hv hw (k r hr H locs ls hl hP hS)
theorem g_dup_x1 (hC : fCx p s m args c cl D aC tb ad A Ts cc own nL) {v w : Value} (pc' : Nat) (hd : decode cc pc = .ok (.dup_x1, 1)) (hv : v.category = 1) (hw : w.category = 1) (hp : pc + 1 = pc')
    (k : GO p l e R s m args below meth c cl D aC tb ad A nL cells slots Qf pc' lv (v :: w :: v :: st) M d) : GO p l e R s m args below meth c cl D aC tb ad A nL cells slots Qf pc lv (v :: w :: st) M d := by
  subst hp
  exact fun r hr H locs ls hl hP hS => lv_dup_x1 hC.1 hC.2.1 hd hv hw (k r hr H locs ls hl hP hS)
theorem g_pop (hC : fCx p s m args c cl D aC tb ad A Ts cc own nL) {v : Value} (pc' : Nat) (hd : decode cc pc = .ok (.pop, 1)) (hv : v.category = 1) (hp : pc + 1 = pc')
    (k : GO p l e R s m args below meth c cl D aC tb ad A nL cells slots Qf pc' lv st M d) : GO p l e R s m args below meth c cl D aC tb ad A nL cells slots Qf pc lv (v :: st) M d := by
  subst hp
  exact fun r hr H locs ls hl hP hS => lv_pop hC.1 hC.2.1 hd hv (k r hr H locs ls hl hP hS)
theorem g_goto (hC : fCx p s m args c cl D aC tb ad A Ts cc own nL) {off : Int} (tgt : Nat) (hd : decode cc pc = .ok (.goto off, 3)) (ht : (pc : Int) + off = (tgt : Int))
    (k : GO p l e R s m args below meth c cl D aC tb ad A nL cells slots Qf tgt lv st M d) : GO p l e R s m args below meth c cl D aC tb ad A nL cells slots Qf pc lv st M d :=
  fun r hr H locs ls hl hP hS => lv_goto hC.1 hC.2.1 hd ht (k r hr H locs ls hl hP hS)
theorem g_icmp_eq (hC : fCx p s m args c cl D aC tb ad A Ts cc own nL) {a b : Int} {off : Int} {dT dF : fOp} (tgt pc' : Nat) (hd : decode cc pc = .ok (.if_icmp .eq off, 3)) (ht : (pc : Int) + off = (tgt : Int)) (hp : pc + 3 = pc')
    (kt : GO p l e R s m args below meth c cl D aC tb ad A nL cells slots Qf tgt lv st M dT) (kf : GO p l e R s m args below meth c cl D aC tb ad A nL cells slots Qf pc' lv st M dF) : GO p l e R s m args below meth c cl D aC tb ad A nL cells slots Qf pc lv (.int (fI b) :: .int (fI a) :: st) M (fEq a b dT dF) := by
  subst hp
  intro r hr H locs ls hl hP hS
  unfold fEq at hr
  split at hr
  · rename_i hab
    refine lv_icmp_eq hC.1 hC.2.1 hd ht (fun h => ?_) (fun h => ?_)
    · rw [fI_eq hab.1 hab.2] at h
      rw [if_pos h] at hr
      exact kt r hr H locs ls hl hP hS
    · rw [fI_eq hab.1 hab.2] at h
      rw [if_neg h] at hr
      exact kf r hr H locs ls hl hP hS
  · cases hr
theorem g_if_eq (hC : fCx p s m args c cl D aC tb ad A Ts cc own nL) {a : Int} {off : Int} {dT dF : fOp} (tgt pc' : Nat) (hd : decode cc pc = .ok (.ifCond .eq off, 3)) (ht : (pc : Int) + off = (tgt : Int)) (hp : pc + 3 = pc')
    (kt : GO p l e R s m args below meth c cl D aC tb ad A nL cells slots Qf tgt lv st M dT) (kf : GO p l e R s m args below meth c cl D aC tb ad A nL cells slots Qf pc' lv st M dF) : GO p l e R s m args below meth c cl D aC tb ad A nL cells slots Qf pc lv (.int (fI a) :: st) M (fEq a 0 dT dF) := by
  subst hp
  intro r hr H locs ls hl hP hS
  unfold fEq at hr
  split at hr
  · rename_i hab
    refine lv_if_eq hC.1 hC.2.1 hd ht (fun h => ?_) (fun h => ?_)
    · rw [← fI_0] at h; rw [fI_eq hab.1 hab.2] at h
      rw [if_pos h] at hr
      exact kt r hr H locs ls hl hP hS
    · rw [← fI_0] at h; rw [fI_eq hab.1 hab.2] at h
      rw [if_neg h] at hr
      exact kf r hr H locs ls hl hP hS
  · cases hr
theorem g_icmp_ne (hC : fCx p s m args c cl D aC tb ad A Ts cc own nL) {a b : Int} {off : Int} {dT dF : fOp} (tgt pc' : Nat) (hd : decode cc pc = .ok (.if_icmp .ne off, 3)) (ht : (pc : Int) + off = (tgt : Int)) (hp : pc + 3 = pc')
    (kt : GO p l e R s m args below meth c cl D aC tb ad A nL cells slots Qf tgt lv st M dT) (kf : GO p l e R s m args below meth c cl D aC tb ad A nL cells slots Qf pc' lv st M dF) : GO p l e R s m args below meth c cl D aC tb ad A nL cells slots Qf pc lv (.int (fI b) :: .int (fI a) :: st) M (fEq a b dF dT) := by
  subst hp
  intro r hr H locs ls hl hP hS
  unfold fEq at hr
  split at hr
  · rename_i hab
    refine lv_icmp_ne hC.1 hC.2.1 hd ht (fun h => ?_) (fun h => ?_)
    · rw [fI_eq hab.1 hab.2] at h
      rw [if_neg h] at hr
      exact kt r hr H locs ls hl hP hS
    · rw [fI_eq hab.1 hab.2] at h
      rw [if_pos h] at hr
      exact kf r hr H locs ls hl hP hS
  · cases hr
theorem g_if_ne (hC : fCx p s m args c cl D aC tb ad A Ts cc own nL) {a : Int} {off : Int} {dT dF : fOp} (tgt pc' : Nat) (hd : decode cc pc = .ok (.ifCond .ne off, 3)) (ht : (pc : Int) + off = (tgt : Int)) (hp : pc + 3 = pc')
    (kt : GO p l e R s m args below meth c cl D aC tb ad A nL cells slots Qf tgt lv st M dT) (kf : GO p l e R s m args below meth c cl D aC tb ad A nL cells slots Qf pc' lv st M dF) : GO p l e R s m args below meth c cl D aC tb ad A nL cells slots Qf pc lv (.int (fI a) :: st) M (fEq a 0 dF dT) := by
  subst hp
  intro r hr H locs ls hl hP hS
  unfold fEq at hr
  split at hr
  · rename_i hab
    refine lv_if_ne hC.1 hC.2.1 hd ht (fun h => ?_) (fun h => ?_)
    · rw [← fI_0] at h; rw [fI_eq hab.1 hab.2] at h
      rw [if_neg h] at hr
      exact kt r hr H locs ls hl hP hS
    · rw [← fI_0] at h; rw [fI_eq hab.1 hab.2] at h
      rw [if_pos h] at hr
      exact kf r hr H locs ls hl hP hS
  · cases hr
theorem g_icmp_lt (hC : fCx p s m args c cl D aC tb ad A Ts cc own nL) {a b : Int} {off : Int} {dT dF : fOp} (tgt pc' : Nat) (hd : decode cc pc = .ok (.if_icmp .lt off, 3)) (ht : (pc : Int) + off = (tgt : Int)) (hp : pc + 3 = pc')
    (kt : GO p l e R s m args below meth c cl D aC tb ad A nL cells slots Qf tgt lv st M dT) (kf : GO p l e R s m args below meth c cl D aC tb ad A nL cells slots Qf pc' lv st M dF) : GO p l e R s m args below meth c cl D aC tb ad A nL cells slots Qf pc lv (.int (fI b) :: .int (fI a) :: st) M (fLt a b dT dF) := by
  subst hp
  intro r hr H locs ls hl hP hS
  unfold fLt at hr
  split at hr
  · rename_i hab
    refine lv_icmp_lt hC.1 hC.2.1 hd ht (fun h => ?_) (fun h => ?_)
    · rw [fI_lt hab.1 hab.2] at h
      rw [if_pos h] at hr
      exact kt r hr H locs ls hl hP hS
    · rw [fI_lt hab.1 hab.2] at h
      rw [if_neg h] at hr
      exact kf r hr H locs ls hl hP hS
  · cases hr
theorem g_if_lt (hC : fCx p s m args c cl D aC tb ad A Ts cc own nL) {a : Int} {off : Int} {dT dF : fOp} (tgt pc' : Nat) (hd : decode cc pc = .ok (.ifCond .lt off, 3)) (ht : (pc : Int) + off = (tgt : Int)) (hp : pc + 3 = pc')
    (kt : GO p l e R s m args below meth c cl D aC tb ad A nL cells slots Qf tgt lv st M dT) (kf : GO p l e R s m args below meth c cl D aC tb ad A nL cells slots Qf pc' lv st M dF) : GO p l e R s m args below meth c cl D aC tb ad A nL cells slots Qf pc lv (.int (fI a) :: st) M (fLt a 0 dT dF) := by
  subst hp
  intro r hr H locs ls hl hP hS
  unfold fLt at hr
  split at hr
  · rename_i hab
    refine lv_if_lt hC.1 hC.2.1 hd ht (fun h => ?_) (fun h => ?_)
    · rw [← fI_0] at h; rw [fI_lt hab.1 hab.2] at h
      rw [if_pos h] at hr
      exact kt r hr H locs ls hl hP hS
    · rw [← fI_0] at h; rw [fI_lt hab.1 hab.2] at h
      rw [if_neg h] at hr
      exact kf r hr H locs ls hl hP hS
  · cases hr
theorem g_icmp_ge (hC : fCx p s m args c cl D aC tb ad A Ts cc own nL) {a b : Int} {off : Int} {dT dF : fOp} (tgt pc' : Nat) (hd : decode cc pc = .ok (.if_icmp .ge off, 3)) (ht : (pc : Int) + off = (tgt : Int)) (hp : pc + 3 = pc')
    (kt : GO p l e R s m args below meth c cl D aC tb ad A nL cells slots Qf tgt lv st M dT) (kf : GO p l e R s m args below meth c cl D aC tb ad A nL cells slots Qf pc' lv st M dF) : GO p l e R s m args below meth c cl D aC tb ad A nL cells slots Qf pc lv (.int (fI b) :: .int (fI a) :: st) M (fLe b a dT dF) := by
  subst hp
  intro r hr H locs ls hl hP hS
  unfold fLe at hr
  split at hr
  · rename_i hab
    refine lv_icmp_ge hC.1 hC.2.1 hd ht (fun h => ?_) (fun h => ?_)
    · rw [fI_le hab.1 hab.2] at h
      rw [if_pos h] at hr
      exact kt r hr H locs ls hl hP hS
    · rw [fI_le hab.1 hab.2] at h
      rw [if_neg h] at hr
      exact kf r hr H locs ls hl hP hS
  · cases hr
theorem g_if_ge (hC : fCx p s m args c cl D aC tb ad A Ts cc own nL) {a : Int} {off : Int} {dT dF : fOp} (tgt pc' : Nat) (hd : decode cc pc = .ok (.ifCond .ge off, 3)) (ht : (pc : Int) + off = (tgt : Int)) (hp : pc + 3 = pc')
    (kt : GO p l e R s m args below meth c cl D aC tb ad A nL cells slots Qf tgt lv st M dT) (kf : GO p l e R s m args below meth c cl D aC tb ad A nL cells slots Qf pc' lv st M dF) : GO p l e R s m args below meth c cl D aC tb ad A nL cells slots Qf pc lv (.int (fI a) :: st) M (fLe 0 a dT dF) := by
  subst hp
  intro r hr H locs ls hl hP hS
  unfold fLe at hr
  split at hr
  · rename_i hab
    refine lv_if_ge hC.1 hC.2.1 hd ht (fun h => ?_) (fun h => ?_)
    · rw [← fI_0] at h; rw [fI_le hab.1 hab.2] at h
      rw [if_pos h] at hr
      exact kt r hr H locs ls hl hP hS
    · rw [← fI_0] at h; rw [fI_le hab.1 hab.2] at h
      rw [if_neg h] at hr
      exact kf r hr H locs ls hl hP hS
  · cases hr
theorem g_icmp_gt (hC : fCx p s m args c cl D aC tb ad A Ts cc own nL) {a b : Int} {off : Int} {dT dF : fOp} (tgt pc' : Nat) (hd : decode cc pc = .ok (.if_icmp .gt off, 3)) (ht : (pc : Int) + off = (tgt : Int)) (hp : pc + 3 = pc')
    (kt : GO p l e R s m args below meth c cl D aC tb ad A nL cells slots Qf tgt lv st M dT) (kf : GO p l e R s m args below meth c cl D aC tb ad A nL cells slots Qf pc' lv st M dF) : GO p l e R s m args below meth c cl D aC tb ad A nL cells slots Qf pc lv (.int (fI b) :: .int (fI a) :: st) M (fLt b a dT dF) := by
  subst hp
  intro r hr H locs ls hl hP hS
  unfold fLt at hr
  split at hr
  · rename_i hab
    refine lv_icmp_gt hC.1 hC.2.1 hd ht (fun h => ?_) (fun h => ?_)
    · rw [fI_lt hab.1 hab.2] at h
      rw [if_pos h] at hr
      exact kt r hr H locs ls hl hP hS
    · rw [fI_lt hab.1 hab.2] at h
      rw [if_neg h] at hr
      exact kf r hr H locs ls hl hP hS
  · cases hr
theorem g_if_gt (hC : fCx p s m args c cl D aC tb ad A Ts cc own nL) {a : Int} {off : Int} {dT dF : fOp} (tgt pc' : Nat) (hd : decode cc pc = .ok (.ifCond .gt off, 3)) (ht : (pc : Int) + off = (tgt : Int)) (hp : pc + 3 = pc')
    (kt : GO p l e R s m args below meth c cl D aC tb ad A nL cells slots Qf tgt lv st M dT) (kf : GO p l e R s m args below meth c cl D aC tb ad A nL cells slots Qf pc' lv st M dF) : GO p l e R s m args below meth c cl D aC tb ad A nL cells slots Qf pc lv (.int (fI a) :: st) M (fLt 0 a dT dF) := by
  subst hp
  intro r hr H locs ls hl hP hS
  unfold fLt at hr
  split at hr
  · rename_i hab
    refine lv_if_gt hC.1 hC.2.1 hd ht (fun h => ?_) (fun h => ?_)
    · rw [← fI_0] at h; rw [fI_lt hab.1 hab.2] at h
      rw [if_pos h] at hr
      exact kt r hr H locs ls hl hP hS
    · rw [← fI_0] at h; rw [fI_lt hab.1 hab.2] at h
      rw [if_neg h] at hr
      exact kf r hr H locs ls hl hP hS
  · cases hr
theorem g_icmp_le (hC : fCx p s m args c cl D aC tb ad A Ts cc own nL) {a b : Int} {off : Int} {dT dF : fOp} (tgt pc' : Nat) (hd : decode cc pc = .ok (.if_icmp .le off, 3)) (ht : (pc : Int) + off = (tgt : Int)) (hp : pc + 3 = pc')
    (kt : GO p l e R s m args below meth c cl D aC tb ad A nL cells slots Qf tgt lv st M dT) (kf : GO p l e R s m args below meth c cl D aC tb ad A nL cells slots Qf pc' lv st M dF) : GO p l e R s m args below meth c cl D aC tb ad A nL cells slots Qf pc lv (.int (fI b) :: .int (fI a) :: st) M (fLe a b dT dF) := by
  subst hp
  intro r hr H locs ls hl hP hS
  unfold fLe at hr
  split at hr
  · rename_i hab
    refine lv_icmp_le hC.1 hC.2.1 hd ht (fun h => ?_) (fun h => ?_)
    · rw [fI_le hab.1 hab.2] at h
      rw [if_pos h] at hr
      exact kt r hr H locs ls hl hP hS
    · rw [fI_le hab.1 hab.2] at h
      rw [if_neg h] at hr
      exact kf r hr H locs ls hl hP hS
  · cases hr
theorem g_if_le (hC : fCx p s m args c cl D aC tb ad A Ts cc own nL) {a : Int} {off : Int} {dT dF : fOp} (tgt pc' : Nat) (hd : decode cc pc = .ok (.ifCond .le off, 3)) (ht : (pc : Int) + off = (tgt : Int)) (hp : pc + 3 = pc')
    (kt : GO p l e R s m args below meth c cl D aC tb ad A nL cells slots Qf tgt lv st M dT) (kf : GO p l e R s m args below meth c cl D aC tb ad A nL cells slots Qf pc' lv st M dF) : GO p l e R s m args below meth c cl D aC tb ad A nL cells slots Qf pc lv (.int (fI a) :: st) M (fLe a 0 dT dF) := by
  subst hp
  intro r hr H locs ls hl hP hS
  unfold fLe at hr
  split at hr
  · rename_i hab
    refine lv_if_le hC.1 hC.2.1 hd ht (fun h => ?_) (fun h => ?_)
    · rw [← fI_0] at h; rw [fI_le hab.1 hab.2] at h
      rw [if_pos h] at hr
      exact kt r hr H locs ls hl hP hS
    · rw [← fI_0] at h; rw [fI_le hab.1 hab.2] at h
      rw [if_neg h] at hr
      exact kf r hr H locs ls hl hP hS
  · cases hr
theorem fCmp_eq {a b : Int} (ha : InL a) (hb : InL b) : lg_cmp (fL a) (fL b) = if b < a then 1 else if a = b then 0 else -1 := by
  unfold lg_cmp
  simp only [gt_iff_lt, fL_lt hb ha, fL_eq ha hb]
theorem g_lcmp_eq (hC : fCx p s m args c cl D aC tb ad A Ts cc own nL) {a b : Int} {off : Int} {dT dF : fOp} (tgt pc' : Nat) (hc : decode cc pc = .ok (.lcmp, 1)) (hd : decode cc (pc + 1) = .ok (.ifCond .eq off, 3)) (ht : ((pc + 1 : Nat) : Int) + off = (tgt : Int)) (hp : pc + 4 = pc')
    (kt : GO p l e R s m args below meth c cl D aC tb ad A nL cells slots Qf tgt lv st M dT) (kf : GO p l e R s m args below meth c cl D aC tb ad A nL cells slots Qf pc' lv st M dF) : GO p l e R s m args below meth c cl D aC tb ad A nL cells slots Qf pc lv (.long (fL b) :: .long (fL a) :: st) M (fEqL a b dT dF) := by
  subst hp
  intro r hr H locs ls hl hP hS
  unfold fEqL at hr
  split at hr
  · rename_i hab
    have hcm := fCmp_eq (a := a) (b := b) hab.1 hab.2
    refine W.lcmp hC.1 hC.2.1 hc ?_
    rw [hcm]
    refine lv_if_eq hC.1 hC.2.1 hd ht (fun h => ?_) (fun h => ?_)
    · have hz : a = b := by
        by_cases h1 : b < a
        · rw [if_pos h1] at h; first | omega | exact absurd h (by decide)
        · rw [if_neg h1] at h
          by_cases h2 : a = b
          · rw [if_pos h2] at h; first | omega | exact absurd h (by decide)
          · rw [if_neg h2] at h; first | omega | exact absurd h (by decide)
      rw [if_pos hz] at hr
      exact kt r hr H locs ls hl hP hS
    · have hz : ¬ a = b := by
        by_cases h1 : b < a
        · rw [if_pos h1] at h; first | omega | exact absurd h (by decide) | exact absurd (by decide) h
        · rw [if_neg h1] at h
          by_cases h2 : a = b
          · rw [if_pos h2] at h; first | omega | exact absurd h (by decide) | exact absurd (by decide) h
          · rw [if_neg h2] at h; first | omega | exact absurd h (by decide) | exact absurd (by decide) h
      rw [if_neg hz] at hr
      exact kf r hr H locs ls hl hP hS
  · cases hr
theorem g_lcmp_ne (hC : fCx p s m args c cl D aC tb ad A Ts cc own nL) {a b : Int} {off : Int} {dT dF : fOp} (tgt pc' : Nat) (hc : decode cc pc = .ok (.lcmp, 1)) (hd : decode cc (pc + 1) = .ok (.ifCond .ne off, 3)) (ht : ((pc + 1 : Nat) : Int) + off = (tgt : Int)) (hp : pc + 4 = pc')
    (kt : GO p l e R s m args below meth c cl D aC tb ad A nL cells slots Qf tgt lv st M dT) (kf : GO p l e R s m args below meth c cl D aC tb ad A nL cells slots Qf pc' lv st M dF) : GO p l e R s m args below meth c cl D aC tb ad A nL cells slots Qf pc lv (.long (fL b) :: .long (fL a) :: st) M (fEqL a b dF dT) := by
  subst hp
  intro r hr H locs ls hl hP hS
  unfold fEqL at hr
  split at hr
  · rename_i hab
    have hcm := fCmp_eq (a := a) (b := b) hab.1 hab.2
    refine W.lcmp hC.1 hC.2.1 hc ?_
    rw [hcm]
    refine lv_if_ne hC.1 hC.2.1 hd ht (fun h => ?_) (fun h => ?_)
    · have hz : ¬ a = b := by
        by_cases h1 : b < a
        · rw [if_pos h1] at h; first | omega | exact absurd h (by decide)
        · rw [if_neg h1] at h
          by_cases h2 : a = b
          · rw [if_pos h2] at h; first | omega | exact absurd h (by decide)
          · rw [if_neg h2] at h; first | omega | exact absurd h (by decide)
      rw [if_neg hz] at hr
      exact kt r hr H locs ls hl hP hS
    · have hz : a = b := by
        by_cases h1 : b < a
        · rw [if_pos h1] at h; first | omega | exact absurd h (by decide) | exact absurd (by decide) h
        · rw [if_neg h1] at h
          by_cases h2 : a = b
          · rw [if_pos h2] at h; first | omega | exact absurd h (by decide) | exact absurd (by decide) h
          · rw [if_neg h2] at h; first | omega | exact absurd h (by decide) | exact absurd (by decide) h
      rw [if_pos hz] at hr
      exact kf r hr H locs ls hl hP hS
  · cases hr
theorem g_lcmp_lt (hC : fCx p s m args c cl D aC tb ad A Ts cc own nL) {a b : Int} {off : Int} {dT dF : fOp} (tgt pc' : Nat) (hc : decode cc pc = .ok (.lcmp, 1)) (hd : decode cc (pc + 1) = .ok (.ifCond .lt off, 3)) (ht : ((pc + 1 : Nat) : Int) + off = (tgt : Int)) (hp : pc + 4 = pc')
    (kt : GO p l e R s m args below meth c cl D aC tb ad A nL cells slots Qf tgt lv st M dT) (kf : GO p l e R s m args below meth c cl D aC tb ad A nL cells slots Qf pc' lv st M dF) : GO p l e R s m args below meth c cl D aC tb ad A nL cells slots Qf pc lv (.long (fL b) :: .long (fL a) :: st) M (fLtL a b dT dF) := by
  subst hp
  intro r hr H locs ls hl hP hS
  unfold fLtL at hr
  split at hr
  · rename_i hab
    have hcm := fCmp_eq (a := a) (b := b) hab.1 hab.2
    refine W.lcmp hC.1 hC.2.1 hc ?_
    rw [hcm]
    refine lv_if_lt hC.1 hC.2.1 hd ht (fun h => ?_) (fun h => ?_)
    · have hz : a < b := by
        by_cases h1 : b < a
        · rw [if_pos h1] at h; first | omega | exact absurd h (by decide)
        · rw [if_neg h1] at h
          by_cases h2 : a = b
          · rw [if_pos h2] at h; first | omega | exact absurd h (by decide)
          · rw [if_neg h2] at h; first | omega | exact absurd h (by decide)
      rw [if_pos hz] at hr
      exact kt r hr H locs ls hl hP hS
    · have hz : ¬ a < b := by
        by_cases h1 : b < a
        · rw [if_pos h1] at h; first | omega | exact absurd h (by decide) | exact absurd (by decide) h
        · rw [if_neg h1] at h
          by_cases h2 : a = b
          · rw [if_pos h2] at h; first | omega | exact absurd h (by decide) | exact absurd (by decide) h
          · rw [if_neg h2] at h; first | omega | exact absurd h (by decide) | exact absurd (by decide) h
      rw [if_neg hz] at hr
      exact kf r hr H locs ls hl hP hS
  · cases hr
theorem g_lcmp_ge (hC : fCx p s m args c cl D aC tb ad A Ts cc own nL) {a b : Int} {off : Int} {dT dF : fOp} (tgt pc' : Nat) (hc : decode cc pc = .ok (.lcmp, 1)) (hd : decode cc (pc + 1) = .ok (.ifCond .ge off, 3)) (ht : ((pc + 1 : Nat) : Int) + off = (tgt : Int)) (hp : pc + 4 = pc')
    (kt : GO p l e R s m args below meth c cl D aC tb ad A nL cells slots Qf tgt lv st M dT) (kf : GO p l e R s m args below meth c cl D aC tb ad A nL cells slots Qf pc' lv st M dF) : GO p l e R s m args below meth c cl D aC tb ad A nL cells slots Qf pc lv (.long (fL b) :: .long (fL a) :: st) M (fLtL a b dF dT) := by
  subst hp
  intro r hr H locs ls hl hP hS
  unfold fLtL at hr
  split at hr
  · rename_i hab
    have hcm := fCmp_eq (a := a) (b := b) hab.1 hab.2
    refine W.lcmp hC.1 hC.2.1 hc ?_
    rw [hcm]
    refine lv_if_ge hC.1 hC.2.1 hd ht (fun h => ?_) (fun h => ?_)
    · have hz : ¬ a < b := by
        by_cases h1 : b < a
        · rw [if_pos h1] at h; first | omega | exact absurd h (by decide)
        · rw [if_neg h1] at h
          by_cases h2 : a = b
          · rw [if_pos h2] at h; first | omega | exact absurd h (by decide)
          · rw [if_neg h2] at h; first | omega | exact absurd h (by decide)
      rw [if_neg hz] at hr
      exact kt r hr H locs ls hl hP hS
    · have hz : a < b := by
        by_cases h1 : b < a
        · rw [if_pos h1] at h; first | omega | exact absurd h (by decide) | exact absurd (by decide) h
        · rw [if_neg h1] at h
          by_cases h2 : a = b
          · rw [if_pos h2] at h; first | omega | exact absurd h (by decide) | exact absurd (by decide) h
          · rw [if_neg h2] at h; first | omega | exact absurd h (by decide) | exact absurd (by decide) h
      rw [if_pos hz] at hr
      exact kf r hr H locs ls hl hP hS
  · cases hr
theorem g_lcmp_gt (hC : fCx p s m args c cl D aC tb ad A Ts cc own nL) {a b : Int} {off : Int} {dT dF : fOp} (tgt pc' : Nat) (hc : decode cc pc = .ok (.lcmp, 1)) (hd : decode cc (pc + 1) = .ok (.ifCond .gt off, 3)) (ht : ((pc + 1 : Nat) : Int) + off = (tgt : Int)) (hp : pc + 4 = pc')
    (kt : GO p l e R s m args below meth c cl D aC tb ad A nL cells slots Qf tgt lv st M dT) (kf : GO p l e R s m args below meth c cl D aC tb ad A nL cells slots Qf pc' lv st M dF) : GO p l e R s m args below meth c cl D aC tb ad A nL cells slots Qf pc lv (.long (fL b) :: .long (fL a) :: st) M (fLtL b a dT dF) := by
  subst hp
  intro r hr H locs ls hl hP hS
  unfold fLtL at hr
  split at hr
  · rename_i hab
    have hcm := fCmp_eq (a := a) (b := b) hab.2 hab.1
    refine W.lcmp hC.1 hC.2.1 hc ?_
    rw [hcm]
    refine lv_if_gt hC.1 hC.2.1 hd ht (fun h => ?_) (fun h => ?_)
    · have hz : b < a := by
        by_cases h1 : b < a
        · rw [if_pos h1] at h; first | omega | exact absurd h (by decide)
        · rw [if_neg h1] at h
          by_cases h2 : a = b
          · rw [if_pos h2] at h; first | omega | exact absurd h (by decide)
          · rw [if_neg h2] at h; first | omega | exact absurd h (by decide)
      rw [if_pos hz] at hr
      exact kt r hr H locs ls hl hP hS
    · have hz : ¬ b < a := by
        by_cases h1 : b < a
        · rw [if_pos h1] at h; first | omega | exact absurd h (by decide) | exact absurd (by decide) h
        · rw [if_neg h1] at h
          by_cases h2 : a = b
          · rw [if_pos h2] at h; first | omega | exact absurd h (by decide) | exact absurd (by decide) h
          · rw [if_neg h2] at h; first | omega | exact absurd h (by decide) | exact absurd (by decide) h
      rw [if_neg hz] at hr
      exact kf r hr H locs ls hl hP hS
  · cases hr
theorem g_lcmp_le (hC : fCx p s m args c cl D aC tb ad A Ts cc own nL) {a b : Int} {off : Int} {dT dF : fOp} (tgt pc' : Nat) (hc : decode cc pc = .ok (.lcmp, 1)) (hd : decode cc (pc + 1) = .ok (.ifCond .le off, 3)) (ht : ((pc + 1 : Nat) : Int) + off = (tgt : Int)) (hp : pc + 4 = pc')
    (kt : GO p l e R s m args below meth c cl D aC tb ad A nL cells slots Qf tgt lv st M dT) (kf : GO p l e R s m args below meth c cl D aC tb ad A nL cells slots Qf pc' lv st M dF) : GO p l e R s m args below meth c cl D aC tb ad A nL cells slots Qf pc lv (.long (fL b) :: .long (fL a) :: st) M (fLtL b a dF dT) := by
  subst hp
  intro r hr H locs ls hl hP hS
  unfold fLtL at hr
  split at hr
  · rename_i hab
    have hcm := fCmp_eq (a := a) (b := b) hab.2 hab.1
    refine W.lcmp hC.1 hC.2.1 hc ?_
    rw [hcm]
    refine lv_if_le hC.1 hC.2.1 hd ht (fun h => ?_) (fun h => ?_)
    · have hz : ¬ b < a := by
        by_cases h1 : b < a
        · rw [if_pos h1] at h; first | omega | exact absurd h (by decide)
        · rw [if_neg h1] at h
          by_cases h2 : a = b
          · rw [if_pos h2] at h; first | omega | exact absurd h (by decide)
          · rw [if_neg h2] at h; first | omega | exact absurd h (by decide)
      rw [if_neg hz] at hr
      exact kt r hr H locs ls hl hP hS
    · have hz : b < a := by
        by_cases h1 : b < a
        · rw [if_pos h1] at h; first | omega | exact absurd h (by decide) | exact absurd (by decide) h
        · rw [if_neg h1] at h
          by_cases h2 : a = b
          · rw [if_pos h2] at h; first | omega | exact absurd h (by decide) | exact absurd (by decide) h
          · rw [if_neg h2] at h; first | omega | exact absurd h (by decide) | exact absurd (by decide) h
      rw [if_pos hz] at hr
      exact kf r hr H locs ls hl hP hS
  · cases hr
theorem g_iald (hC : fCx p s m args c cl D aC tb ad A Ts cc own nL) {q n : Nat} {xs : List (Nat × Nat)} {i : Int} {kd : Int → fOp} (pc' : Nat) (he : tb[q]? = some (0, n, xs)) (hn : n ≤ 2147483648) (hd : decode cc pc = .ok (.iaload, 1)) (hp : pc + 1 = pc')
    (k : ∀ x : Int, GO p l e R s m args below meth c cl D aC tb ad A nL cells slots Qf pc' lv (.int (fI x) :: st) M (kd x)) : GO p l e R s m args below meth c cl D aC tb ad A nL cells slots Qf pc lv (.int (fI i) :: .ref (ad q) :: st) M (fRd M q n i kd) := by
  subst hp
  intro r hr H locs ls hl hP hS
  unfold fRd at hr
  split at hr
  · rename_i h
    refine va_iald hC.1 hC.2.1 hC.2.2.2.2.2.1 hP q 0 (fW_get he) rfl (fI_in h hn) hd ?_
    rw [fI_clamp h hn]
    exact k _ r hr H locs ls hl hP hS
  · cases hr
theorem g_zald (hC : fCx p s m args c cl D aC tb ad A Ts cc own nL) {q n : Nat} {xs : List (Nat × Nat)} {i : Int} {kd : Int → fOp} (pc' : Nat) (he : tb[q]? = some (1, n, xs)) (hn : n ≤ 2147483648) (hd : decode cc pc = .ok (.baload, 1)) (hp : pc + 1 = pc')
    (k : ∀ x : Int, GO p l e R s m args below meth c cl D aC tb ad A nL cells slots Qf pc' lv (.int (fI x) :: st) M (kd x)) : GO p l e R s m args below meth c cl D aC tb ad A nL cells slots Qf pc lv (.int (fI i) :: .ref (ad q) :: st) M (fRd M q n i kd) := by
  subst hp
  intro r hr H locs ls hl hP hS
  unfold fRd at hr
  split at hr
  · rename_i h
    refine va_zald hC.1 hC.2.1 hC.2.2.2.2.2.1 hP q 1 (fW_get he) rfl (fI_in h hn) hd ?_
    rw [fI_clamp h hn]
    exact k _ r hr H locs ls hl hP hS
  · cases hr
theorem g_lald (hC : fCx p s m args c cl D aC tb ad A Ts cc own nL) {q n : Nat} {xs : List (Nat × Nat)} {i : Int} {kd : Int → fOp} (pc' : Nat) (he : tb[q]? = some (2, n, xs)) (hn : n ≤ 2147483648) (hd : decode cc pc = .ok (.laload, 1)) (hp : pc + 1 = pc')
    (k : ∀ x : Int, GO p l e R s m args below meth c cl D aC tb ad A nL cells slots Qf pc' lv (.long (fL x) :: st) M (kd x)) : GO p l e R s m args below meth c cl D aC tb ad A nL cells slots Qf pc lv (.int (fI i) :: .ref (ad q) :: st) M (fRd M q n i kd) := by
  subst hp
  intro r hr H locs ls hl hP hS
  unfold fRd at hr
  split at hr
  · rename_i h
    refine va_lald hC.1 hC.2.1 hC.2.2.2.2.2.1 hP q 2 (fW_get he) rfl (fI_in h hn) hd ?_
    rw [fI_clamp h hn]
    exact k _ r hr H locs ls hl hP hS
  · cases hr
theorem g_aald (hC : fCx p s m args c cl D aC tb ad A Ts cc own nL) {q kc : Nat} {qs : List (Nat × Nat)} {i : Int} {kd : Nat → fOp} {C : String} (n b t pc' : Nat) (he : tb[q]? = some (3, kc, qs)) (hT : (fTY aC)[kc]? = some (aC kc, .object C)) (hq : ∀ j, j < n → qs[j]? = some (2, b + t * j)) (hl0 : qs.length = n) (hn : n ≤ 2147483648) (hd : decode cc pc = .ok (.aaload, 1)) (hp : pc + 1 = pc')
    (k : ∀ P, (∃ j, j < n ∧ P = b + t * j) → GO p l e R s m args below meth c cl D aC tb ad A nL cells slots Qf pc' lv (.ref (ad P) :: st) M (kd P)) : GO p l e R s m args below meth c cl D aC tb ad A nL cells slots Qf pc lv (.int (fI i) :: .ref (ad q) :: st) M (fIx n b t i kd) := by
  subst hp
  intro r hr H locs ls hl hP hS
  unfold fIx at hr
  split at hr
  · rename_i h
    have h' : 0 ≤ i ∧ i < ((qs.length : Nat) : Int) := by rw [hl0]; exact h
    have hj : i.toNat < n := by omega
    refine va_aldq hC.1 hC.2.1 hC.2.2.2.2.2.1 hP q kc (fW_get he) hT (fI_in h' (by omega)) hd ?_
    rw [fI_clamp h' (by omega)]
    have e1 : va_rf (fRf ad (qs[i.toNat]?)) = .ref (ad (b + t * i.toNat)) := by rw [hq _ hj]; rfl
    rw [e1]
    exact k _ ⟨_, hj, rfl⟩ r hr H locs ls hl hP hS
  · cases hr
theorem g_rald (hC : fCx p s m args c cl D aC tb ad A Ts cc own nL) {q kc : Nat} {qs : List (Nat × Nat)} {i : Int} {kd : Nat → fOp} {ty : FieldType} (n b t pc' : Nat) (he : tb[q]? = some (3, kc, qs)) (hT : (fTY aC)[kc]? = some (aC kc, .array ty)) (hq : ∀ j, j < n → qs[j]? = some (2, b + t * j)) (hl0 : qs.length = n) (hn : n ≤ 2147483648) (hd : decode cc pc = .ok (.aaload, 1)) (hp : pc + 1 = pc')
    (k : ∀ P, (∃ j, j < n ∧ P = b + t * j) → GO p l e R s m args below meth c cl D aC tb ad A nL cells slots Qf pc' lv (.ref (ad P) :: st) M (kd P)) : GO p l e R s m args below meth c cl D aC tb ad A nL cells slots Qf pc lv (.int (fI i) :: .ref (ad q) :: st) M (fIx n b t i kd) := by
  subst hp
  intro r hr H locs ls hl hP hS
  unfold fIx at hr
  split at hr
  · rename_i h
    have h' : 0 ≤ i ∧ i < ((qs.length : Nat) : Int) := by rw [hl0]; exact h
    have hj : i.toNat < n := by omega
    have hin := fI_in h' (by omega)
    have hlt : (fI i).toNatClampNeg < qs.length := Nat.not_le.mp fun q => hin (Or.inr q)
    have e1 : va_rf (fRf ad (qs[(fI i).toNatClampNeg]?)) = .ref (ad (b + t * i.toNat)) := by rw [fI_clamp h' (by omega), hq _ hj]; rfl
    refine W.aald (v := .ref (ad (b + t * i.toNat))) (ty := .array ty) hC.1 hC.2.1 (hP q _ (fW_get he)) ((hC.2.2.2.2.2.1.2 kc _ hT).1 qs.length (fun j => va_rf (fRf ad (qs[j]?)))) rfl (fun q => by cases q) (by show ¬ (fI i < 0 ∨ (arrV _ _ _).slots.size ≤ _); rw [arrV_size]; exact hin) (by show (arrV _ _ _).slots[_]? = _; rw [arrV_read _ _ hlt, e1]) rfl rfl hd ?_
    exact k _ ⟨_, hj, rfl⟩ r hr H locs ls hl hP hS
  · cases hr
theorem g_iast (hC : fCx p s m args c cl D aC tb ad A Ts cc own nL) {q n : Nat} {xs : List (Nat × Nat)} {i v : Int} {kd : fMem → fOp} (pc' : Nat) (he : tb[q]? = some (0, n, xs)) (hn : n ≤ 2147483648) (hd : decode cc pc = .ok (.iastore, 1)) (hp : pc + 1 = pc')
    (k : ∀ M' : fMem, GO p l e R s m args below meth c cl D aC tb ad A nL cells slots Qf pc' lv st M' (kd M')) : GO p l e R s m args below meth c cl D aC tb ad A nL cells slots Qf pc lv (.int (fI v) :: .int (fI i) :: .ref (ad q) :: st) M (fWr M q n i v kd) := by
  subst hp
  intro r hr H locs ls hl hP hS
  unfold fWr at hr
  split at hr
  · rename_i h
    refine va_iast hC.1 hC.2.1 hC.2.2.2.2.2.1 hP (fW_D hC.2.2.2.2.2.2.1 hC.2.2.2.2.2.2.2.1) hS q 0 (fW_get he) rfl (fI_in h hn) hd (fun H1 locs1 hP1 _ hS1 => ?_)
    rw [fI_clamp h hn, fW_set (M' := fup M q i.toNat v) he ?_ (fun x hx => fup_off _ _ _ _ _ hx)] at hP1
    · exact k _ r hr H1 locs1 ls hl hP1 hS1
    · rw [fup_row]
      unfold fEnt
      dsimp only
      congr 4
      funext j
      unfold upd
      split <;> rfl
  · cases hr
theorem g_last (hC : fCx p s m args c cl D aC tb ad A Ts cc own nL) {q n : Nat} {xs : List (Nat × Nat)} {i v : Int} {kd : fMem → fOp} (pc' : Nat) (he : tb[q]? = some (2, n, xs)) (hn : n ≤ 2147483648) (hd : decode cc pc = .ok (.lastore, 1)) (hp : pc + 1 = pc')
    (k : ∀ M' : fMem, GO p l e R s m args below meth c cl D aC tb ad A nL cells slots Qf pc' lv st M' (kd M')) : GO p l e R s m args below meth c cl D aC tb ad A nL cells slots Qf pc lv (.long (fL v) :: .int (fI i) :: .ref (ad q) :: st) M (fWr M q n i v kd) := by
  subst hp
  intro r hr H locs ls hl hP hS
  unfold fWr at hr
  split at hr
  · rename_i h
    refine va_last hC.1 hC.2.1 hC.2.2.2.2.2.1 hP (fW_D hC.2.2.2.2.2.2.1 hC.2.2.2.2.2.2.2.1) hS q 2 (fW_get he) rfl (fI_in h hn) hd (fun H1 locs1 hP1 _ hS1 => ?_)
    rw [fI_clamp h hn, fW_set (M' := fup M q i.toNat v) he ?_ (fun x hx => fup_off _ _ _ _ _ hx)] at hP1
    · exact k _ r hr H1 locs1 ls hl hP1 hS1
    · rw [fup_row]
      unfold fEnt
      dsimp only
      congr 5
      funext j
      unfold vp_updL
      split <;> rfl
  · cases hr
theorem g_zast (hC : fCx p s m args c cl D aC tb ad A Ts cc own nL) {q n : Nat} {xs : List (Nat × Nat)} {i v : Int} {kd : fMem → fOp} (pc' : Nat) (he : tb[q]? = some (1, n, xs)) (hn : n ≤ 2147483648) (hd : decode cc pc = .ok (.bastore, 1)) (hp : pc + 1 = pc')
    (k : ∀ M' : fMem, GO p l e R s m args below meth c cl D aC tb ad A nL cells slots Qf pc' lv st M' (kd M')) : GO p l e R s m args below meth c cl D aC tb ad A nL cells slots Qf pc lv (.int (fI v) :: .int (fI i) :: .ref (ad q) :: st) M (fWz M q n i v kd) := by
  subst hp
  intro r hr H locs ls hl hP hS
  unfold fWz at hr
  split at hr
  · rename_i h
    refine va_zast hC.1 hC.2.1 hC.2.2.2.2.2.1 hP (fW_D hC.2.2.2.2.2.2.1 hC.2.2.2.2.2.2.2.1) hS q 1 (fW_get he) rfl (fI_in h.1 hn) hd (fun H1 locs1 hP1 _ hS1 => ?_)
    rw [fI_boolN h.2] at hP1
    rw [fI_clamp h.1 hn, fW_set (M' := fup M q i.toNat v) he ?_ (fun x hx => fup_off _ _ _ _ _ hx)] at hP1
    · exact k _ r hr H1 locs1 ls hl hP1 hS1
    · rw [fup_row]
      unfold fEnt
      dsimp only
      congr 4
      funext j
      unfold upd
      split <;> rfl
  · cases hr
theorem g_getI (hC : fCx p s m args c cl D aC tb ad A Ts cc own nL) {ref C : String} {T : u_T} {N ci index q z : Nat} {fs : List (Nat × Nat)} {kd : Int → fOp} (pc' : Nat) (hin : ∀ w ∈ u_ws C T N, w ∈ Ts) (hc : cl[ci]? = some (C, T, N)) (kf : Nat) (hk : kf < N) (hw : Cond.fieldLink own index ref (T kf).2.1 (T kf).2.2.1 ∈ Ts) (hs : (T kf).1 = ref) (he : tb[q]? = some (4, ci, fs)) (hf : fs[kf]? = some (0, z)) (hd : decode cc pc = .ok (.getfield index, 3)) (hp : pc + 3 = pc')
    (k : ∀ x : Int, GO p l e R s m args below meth c cl D aC tb ad A nL cells slots Qf pc' lv (.int (fI x) :: st) M (kd x)) : GO p l e R s m args below meth c cl D aC tb ad A nL cells slots Qf pc lv (.ref (ad q) :: st) M (fGt M q kf kd) := by
  subst hp
  intro r hr H locs ls hl hP hS
  exact va_get hC.1 hC.2.1 hC.2.2.2.2.1 hin hC.2.2.2.1 hC.2.2.2.2.2.1 hP q (fW_get he) hc kf hk (hC.2.2.2.2.1 _ hw) (fun x h => by rw [← hs]; exact h) (by rw [List.getElem?_mapIdx, hf]; rfl) hd (k _ r hr H locs ls hl hP hS)
theorem g_getJ (hC : fCx p s m args c cl D aC tb ad A Ts cc own nL) {ref C : String} {T : u_T} {N ci index q z : Nat} {fs : List (Nat × Nat)} {kd : Int → fOp} (pc' : Nat) (hin : ∀ w ∈ u_ws C T N, w ∈ Ts) (hc : cl[ci]? = some (C, T, N)) (kf : Nat) (hk : kf < N) (hw : Cond.fieldLink own index ref (T kf).2.1 (T kf).2.2.1 ∈ Ts) (hs : (T kf).1 = ref) (he : tb[q]? = some (4, ci, fs)) (hf : fs[kf]? = some (1, z)) (hd : decode cc pc = .ok (.getfield index, 3)) (hp : pc + 3 = pc')
    (k : ∀ x : Int, GO p l e R s m args below meth c cl D aC tb ad A nL cells slots Qf pc' lv (.long (fL x) :: st) M (kd x)) : GO p l e R s m args below meth c cl D aC tb ad A nL cells slots Qf pc lv (.ref (ad q) :: st) M (fGt M q kf kd) := by
  subst hp
  intro r hr H locs ls hl hP hS
  exact va_get hC.1 hC.2.1 hC.2.2.2.2.1 hin hC.2.2.2.1 hC.2.2.2.2.2.1 hP q (fW_get he) hc kf hk (hC.2.2.2.2.1 _ hw) (fun x h => by rw [← hs]; exact h) (by rw [List.getElem?_mapIdx, hf]; rfl) hd (k _ r hr H locs ls hl hP hS)
theorem g_getA (hC : fCx p s m args c cl D aC tb ad A Ts cc own nL) {ref C : String} {T : u_T} {N ci index q z : Nat} {fs : List (Nat × Nat)} (pc' : Nat) (hin : ∀ w ∈ u_ws C T N, w ∈ Ts) (hc : cl[ci]? = some (C, T, N)) (kf : Nat) (hk : kf < N) (hw : Cond.fieldLink own index ref (T kf).2.1 (T kf).2.2.1 ∈ Ts) (hs : (T kf).1 = ref) (he : tb[q]? = some (4, ci, fs)) (hf : fs[kf]? = some (2, z)) (hd : decode cc pc = .ok (.getfield index, 3)) (hp : pc + 3 = pc')
    (k : GO p l e R s m args below meth c cl D aC tb ad A nL cells slots Qf pc' lv (.ref (ad z) :: st) M d) : GO p l e R s m args below meth c cl D aC tb ad A nL cells slots Qf pc lv (.ref (ad q) :: st) M d := by
  subst hp
  intro r hr H locs ls hl hP hS
  exact va_get hC.1 hC.2.1 hC.2.2.2.2.1 hin hC.2.2.2.1 hC.2.2.2.2.2.1 hP q (fW_get he) hc kf hk (hC.2.2.2.2.1 _ hw) (fun x h => by rw [← hs]; exact h) (by rw [List.getElem?_mapIdx, hf]; rfl) hd (k r hr H locs ls hl hP hS)
theorem g_putI (hC : fCx p s m args c cl D aC tb ad A Ts cc own nL) {ref C : String} {T : u_T} {N ci index q z : Nat} {fs : List (Nat × Nat)} {v : Int} {kd : fMem → fOp} (pc' : Nat) (ty0 : Nat → FieldType) (hty : ∀ k, k < N → parseFieldDescriptor (T k).2.2.1 = some (ty0 k)) (hnm : ∀ a, a < N → ∀ b, b < N → a ≠ b → (T a).2.1 ≠ (T b).2.1) (hin : ∀ w ∈ u_ws C T N, w ∈ Ts) (hc : cl[ci]? = some (C, T, N)) (kf : Nat) (hk : kf < N) (hw : Cond.fieldLink own index ref (T kf).2.1 (T kf).2.2.1 ∈ Ts) (hs : (T kf).1 = ref) (hfin : (T kf).2.2.2 = false) (hpt : parseFieldDescriptor (T kf).2.2.1 = some .int) (he : tb[q]? = some (4, ci, fs)) (hf : fs[kf]? = some (0, z)) (hd : decode cc pc = .ok (.putfield index, 3)) (hp : pc + 3 = pc')
    (k : ∀ M' : fMem, GO p l e R s m args below meth c cl D aC tb ad A nL cells slots Qf pc' lv st M' (kd M')) : GO p l e R s m args below meth c cl D aC tb ad A nL cells slots Qf pc lv (.int (fI v) :: .ref (ad q) :: st) M (fPt M q kf v kd) := by
  subst hp
  intro r hr H locs ls hl hP hS
  have hlt : kf < fs.length := (List.getElem?_eq_some_iff.mp hf).1
  refine va_put hC.1 hC.2.1 hC.2.2.2.2.1 hin ty0 hty hnm hC.2.2.2.1 hC.2.2.2.2.2.1 hP (fW_D hC.2.2.2.2.2.2.1 hC.2.2.2.2.2.2.2.1) hS q (fW_get he) hc kf hk (hC.2.2.2.2.1 _ hw) (fun x h => by rw [← hs]; exact h) hfin hpt rfl rfl (by simpa using hlt) hd (fun H1 locs1 hP1 _ hS1 => ?_)
  rw [fW_set (M' := fup M q kf v) he ?_ (fun x hx => fup_off _ _ _ _ _ hx)] at hP1
  · exact k _ r hr H1 locs1 ls hl hP1 hS1
  · exact (fEnt_put hf rfl).symm
theorem g_putJ (hC : fCx p s m args c cl D aC tb ad A Ts cc own nL) {ref C : String} {T : u_T} {N ci index q z : Nat} {fs : List (Nat × Nat)} {v : Int} {kd : fMem → fOp} (pc' : Nat) (ty0 : Nat → FieldType) (hty : ∀ k, k < N → parseFieldDescriptor (T k).2.2.1 = some (ty0 k)) (hnm : ∀ a, a < N → ∀ b, b < N → a ≠ b → (T a).2.1 ≠ (T b).2.1) (hin : ∀ w ∈ u_ws C T N, w ∈ Ts) (hc : cl[ci]? = some (C, T, N)) (kf : Nat) (hk : kf < N) (hw : Cond.fieldLink own index ref (T kf).2.1 (T kf).2.2.1 ∈ Ts) (hs : (T kf).1 = ref) (hfin : (T kf).2.2.2 = false) (hpt : parseFieldDescriptor (T kf).2.2.1 = some .long) (he : tb[q]? = some (4, ci, fs)) (hf : fs[kf]? = some (1, z)) (hd : decode cc pc = .ok (.putfield index, 3)) (hp : pc + 3 = pc')
    (k : ∀ M' : fMem, GO p l e R s m args below meth c cl D aC tb ad A nL cells slots Qf pc' lv st M' (kd M')) : GO p l e R s m args below meth c cl D aC tb ad A nL cells slots Qf pc lv (.long (fL v) :: .ref (ad q) :: st) M (fPt M q kf v kd) := by
  subst hp
  intro r hr H locs ls hl hP hS
  have hlt : kf < fs.length := (List.getElem?_eq_some_iff.mp hf).1
  refine va_put hC.1 hC.2.1 hC.2.2.2.2.1 hin ty0 hty hnm hC.2.2.2.1 hC.2.2.2.2.2.1 hP (fW_D hC.2.2.2.2.2.2.1 hC.2.2.2.2.2.2.2.1) hS q (fW_get he) hc kf hk (hC.2.2.2.2.1 _ hw) (fun x h => by rw [← hs]; exact h) hfin hpt rfl rfl (by simpa using hlt) hd (fun H1 locs1 hP1 _ hS1 => ?_)
  rw [fW_set (M' := fup M q kf v) he ?_ (fun x hx => fup_off _ _ _ _ _ hx)] at hP1
  · exact k _ r hr H1 locs1 ls hl hP1 hS1
  · exact (fEnt_put hf rfl).symm
theorem g_putZ (hC : fCx p s m args c cl D aC tb ad A Ts cc own nL) {ref C : String} {T : u_T} {N ci index q z : Nat} {fs : List (Nat × Nat)} {v : Int} {kd : fMem → fOp} (pc' : Nat) (ty0 : Nat → FieldType) (hty : ∀ k, k < N → parseFieldDescriptor (T k).2.2.1 = some (ty0 k)) (hnm : ∀ a, a < N → ∀ b, b < N → a ≠ b → (T a).2.1 ≠ (T b).2.1) (hin : ∀ w ∈ u_ws C T N, w ∈ Ts) (hc : cl[ci]? = some (C, T, N)) (kf : Nat) (hk : kf < N) (hw : Cond.fieldLink own index ref (T kf).2.1 (T kf).2.2.1 ∈ Ts) (hs : (T kf).1 = ref) (hfin : (T kf).2.2.2 = false) (hpt : parseFieldDescriptor (T kf).2.2.1 = some .boolean) (he : tb[q]? = some (4, ci, fs)) (hf : fs[kf]? = some (0, z)) (hd : decode cc pc = .ok (.putfield index, 3)) (hp : pc + 3 = pc')
    (k : ∀ M' : fMem, GO p l e R s m args below meth c cl D aC tb ad A nL cells slots Qf pc' lv st M' (kd M')) : GO p l e R s m args below meth c cl D aC tb ad A nL cells slots Qf pc lv (.int (fI v) :: .ref (ad q) :: st) M (fPz M q kf v kd) := by
  subst hp
  intro r hr H locs ls hl hP hS
  have hlt : kf < fs.length := (List.getElem?_eq_some_iff.mp hf).1
  unfold fPz at hr
  split at hr
  · rename_i h
    refine va_put hC.1 hC.2.1 hC.2.2.2.2.1 hin ty0 hty hnm hC.2.2.2.1 hC.2.2.2.2.2.1 hP (fW_D hC.2.2.2.2.2.2.1 hC.2.2.2.2.2.2.2.1) hS q (fW_get he) hc kf hk (hC.2.2.2.2.1 _ hw) (fun x h => by rw [← hs]; exact h) hfin hpt (fI_bool h) (fI_boolF h) (by simpa using hlt) hd (fun H1 locs1 hP1 _ hS1 => ?_)
    rw [fW_set (M' := fup M q kf v) he ?_ (fun x hx => fup_off _ _ _ _ _ hx)] at hP1
    · exact k _ r hr H1 locs1 ls hl hP1 hS1
    · exact (fEnt_put hf rfl).symm
  · cases hr
theorem g_getIN (hC : fCx p s m args c cl D aC tb ad A Ts cc own nL) {ref C : String} {host : String} {T : u_T} {N ci index q z : Nat} {fs : List (Nat × Nat)} {kd : Int → fOp} (pc' : Nat) (hin : ∀ w ∈ u_ws C T N, w ∈ Ts) (hc : cl[ci]? = some (C, T, N)) (kf : Nat) (hk : kf < N) (hw : Cond.fieldLinkNest own index ref (T kf).2.1 (T kf).2.2.1 host ∈ lw_tbl) (hs : (T kf).1 = ref) (he : tb[q]? = some (4, ci, fs)) (hf : fs[kf]? = some (0, z)) (hd : decode cc pc = .ok (.getfield index, 3)) (hp : pc + 3 = pc')
    (k : ∀ x : Int, GO p l e R s m args below meth c cl D aC tb ad A nL cells slots Qf pc' lv (.int (fI x) :: st) M (kd x)) : GO p l e R s m args below meth c cl D aC tb ad A nL cells slots Qf pc lv (.ref (ad q) :: st) M (fGt M q kf kd) := by
  subst hp
  intro r hr H locs ls hl hP hS
  exact va_getN hC.1 hC.2.1 hC.2.2.2.2.1 hin hC.2.2.2.1 hC.2.2.2.2.2.1 hP q (fW_get he) hc kf hk (va_Nw.use rfl (hC.2.2.2.2.2.2.2.2 _ hw rfl)) (fun x h => by rw [← hs]; exact h) (by rw [List.getElem?_mapIdx, hf]; rfl) hd (k _ r hr H locs ls hl hP hS)
theorem g_getJN (hC : fCx p s m args c cl D aC tb ad A Ts cc own nL) {ref C : String} {host : String} {T : u_T} {N ci index q z : Nat} {fs : List (Nat × Nat)} {kd : Int → fOp} (pc' : Nat) (hin : ∀ w ∈ u_ws C T N, w ∈ Ts) (hc : cl[ci]? = some (C, T, N)) (kf : Nat) (hk : kf < N) (hw : Cond.fieldLinkNest own index ref (T kf).2.1 (T kf).2.2.1 host ∈ lw_tbl) (hs : (T kf).1 = ref) (he : tb[q]? = some (4, ci, fs)) (hf : fs[kf]? = some (1, z)) (hd : decode cc pc = .ok (.getfield index, 3)) (hp : pc + 3 = pc')
    (k : ∀ x : Int, GO p l e R s m args below meth c cl D aC tb ad A nL cells slots Qf pc' lv (.long (fL x) :: st) M (kd x)) : GO p l e R s m args below meth c cl D aC tb ad A nL cells slots Qf pc lv (.ref (ad q) :: st) M (fGt M q kf kd) := by
  subst hp
  intro r hr H locs ls hl hP hS
  exact va_getN hC.1 hC.2.1 hC.2.2.2.2.1 hin hC.2.2.2.1 hC.2.2.2.2.2.1 hP q (fW_get he) hc kf hk (va_Nw.use rfl (hC.2.2.2.2.2.2.2.2 _ hw rfl)) (fun x h => by rw [← hs]; exact h) (by rw [List.getElem?_mapIdx, hf]; rfl) hd (k _ r hr H locs ls hl hP hS)
theorem g_getAN (hC : fCx p s m args c cl D aC tb ad A Ts cc own nL) {ref C : String} {host : String} {T : u_T} {N ci index q z : Nat} {fs : List (Nat × Nat)} (pc' : Nat) (hin : ∀ w ∈ u_ws C T N, w ∈ Ts) (hc : cl[ci]? = some (C, T, N)) (kf : Nat) (hk : kf < N) (hw : Cond.fieldLinkNest own index ref (T kf).2.1 (T kf).2.2.1 host ∈ lw_tbl) (hs : (T kf).1 = ref) (he : tb[q]? = some (4, ci, fs)) (hf : fs[kf]? = some (2, z)) (hd : decode cc pc = .ok (.getfield index, 3)) (hp : pc + 3 = pc')
    (k : GO p l e R s m args below meth c cl D aC tb ad A nL cells slots Qf pc' lv (.ref (ad z) :: st) M d) : GO p l e R s m args below meth c cl D aC tb ad A nL cells slots Qf pc lv (.ref (ad q) :: st) M d := by
  subst hp
  intro r hr H locs ls hl hP hS
  exact va_getN hC.1 hC.2.1 hC.2.2.2.2.1 hin hC.2.2.2.1 hC.2.2.2.2.2.1 hP q (fW_get he) hc kf hk (va_Nw.use rfl (hC.2.2.2.2.2.2.2.2 _ hw rfl)) (fun x h => by rw [← hs]; exact h) (by rw [List.getElem?_mapIdx, hf]; rfl) hd (k r hr H locs ls hl hP hS)
theorem g_putIN (hC : fCx p s m args c cl D aC tb ad A Ts cc own nL) {ref C : String} {host : String} {T : u_T} {N ci index q z : Nat} {fs : List (Nat × Nat)} {v : Int} {kd : fMem → fOp} (pc' : Nat) (ty0 : Nat → FieldType) (hty : ∀ k, k < N → parseFieldDescriptor (T k).2.2.1 = some (ty0 k)) (hnm : ∀ a, a < N → ∀ b, b < N → a ≠ b → (T a).2.1 ≠ (T b).2.1) (hin : ∀ w ∈ u_ws C T N, w ∈ Ts) (hc : cl[ci]? = some (C, T, N)) (kf : Nat) (hk : kf < N) (hw : Cond.fieldLinkNest own index ref (T kf).2.1 (T kf).2.2.1 host ∈ lw_tbl) (hs : (T kf).1 = ref) (hfin : (T kf).2.2.2 = false) (hpt : parseFieldDescriptor (T kf).2.2.1 = some .int) (he : tb[q]? = some (4, ci, fs)) (hf : fs[kf]? = some (0, z)) (hd : decode cc pc = .ok (.putfield index, 3)) (hp : pc + 3 = pc')
    (k : ∀ M' : fMem, GO p l e R s m args below meth c cl D aC tb ad A nL cells slots Qf pc' lv st M' (kd M')) : GO p l e R s m args below meth c cl D aC tb ad A nL cells slots Qf pc lv (.int (fI v) :: .ref (ad q) :: st) M (fPt M q kf v kd) := by
  subst hp
  intro r hr H locs ls hl hP hS
  have hlt : kf < fs.length := (List.getElem?_eq_some_iff.mp hf).1
  refine va_putN hC.1 hC.2.1 hC.2.2.2.2.1 hin ty0 hty hnm hC.2.2.2.1 hC.2.2.2.2.2.1 hP (fW_D hC.2.2.2.2.2.2.1 hC.2.2.2.2.2.2.2.1) hS q (fW_get he) hc kf hk (va_Nw.use rfl (hC.2.2.2.2.2.2.2.2 _ hw rfl)) (fun x h => by rw [← hs]; exact h) hfin hpt rfl rfl (by simpa using hlt) hd (fun H1 locs1 hP1 _ hS1 => ?_)
  rw [fW_set (M' := fup M q kf v) he ?_ (fun x hx => fup_off _ _ _ _ _ hx)] at hP1
  · exact k _ r hr H1 locs1 ls hl hP1 hS1
  · exact (fEnt_put hf rfl).symm
theorem g_putJN (hC : fCx p s m args c cl D aC tb ad A Ts cc own nL) {ref C : String} {host : String} {T : u_T} {N ci index q z : Nat} {fs : List (Nat × Nat)} {v : Int} {kd : fMem → fOp} (pc' : Nat) (ty0 : Nat → FieldType) (hty : ∀ k, k < N → parseFieldDescriptor (T k).2.2.1 = some (ty0 k)) (hnm : ∀ a, a < N → ∀ b, b < N → a ≠ b → (T a).2.1 ≠ (T b).2.1) (hin : ∀ w ∈ u_ws C T N, w ∈ Ts) (hc : cl[ci]? = some (C, T, N)) (kf : Nat) (hk : kf < N) (hw : Cond.fieldLinkNest own index ref (T kf).2.1 (T kf).2.2.1 host ∈ lw_tbl) (hs : (T kf).1 = ref) (hfin : (T kf).2.2.2 = false) (hpt : parseFieldDescriptor (T kf).2.2.1 = some .long) (he : tb[q]? = some (4, ci, fs)) (hf : fs[kf]? = some (1, z)) (hd : decode cc pc = .ok (.putfield index, 3)) (hp : pc + 3 = pc')
    (k : ∀ M' : fMem, GO p l e R s m args below meth c cl D aC tb ad A nL cells slots Qf pc' lv st M' (kd M')) : GO p l e R s m args below meth c cl D aC tb ad A nL cells slots Qf pc lv (.long (fL v) :: .ref (ad q) :: st) M (fPt M q kf v kd) := by
  subst hp
  intro r hr H locs ls hl hP hS
  have hlt : kf < fs.length := (List.getElem?_eq_some_iff.mp hf).1
  refine va_putN hC.1 hC.2.1 hC.2.2.2.2.1 hin ty0 hty hnm hC.2.2.2.1 hC.2.2.2.2.2.1 hP (fW_D hC.2.2.2.2.2.2.1 hC.2.2.2.2.2.2.2.1) hS q (fW_get he) hc kf hk (va_Nw.use rfl (hC.2.2.2.2.2.2.2.2 _ hw rfl)) (fun x h => by rw [← hs]; exact h) hfin hpt rfl rfl (by simpa using hlt) hd (fun H1 locs1 hP1 _ hS1 => ?_)
  rw [fW_set (M' := fup M q kf v) he ?_ (fun x hx => fup_off _ _ _ _ _ hx)] at hP1
  · exact k _ r hr H1 locs1 ls hl hP1 hS1
  · exact (fEnt_put hf rfl).symm
theorem g_putZN (hC : fCx p s m args c cl D aC tb ad A Ts cc own nL) {ref C : String} {host : String} {T : u_T} {N ci index q z : Nat} {fs : List (Nat × Nat)} {v : Int} {kd : fMem → fOp} (pc' : Nat) (ty0 : Nat → FieldType) (hty : ∀ k, k < N → parseFieldDescriptor (T k).2.2.1 = some (ty0 k)) (hnm : ∀ a, a < N → ∀ b, b < N → a ≠ b → (T a).2.1 ≠ (T b).2.1) (hin : ∀ w ∈ u_ws C T N, w ∈ Ts) (hc : cl[ci]? = some (C, T, N)) (kf : Nat) (hk : kf < N) (hw : Cond.fieldLinkNest own index ref (T kf).2.1 (T kf).2.2.1 host ∈ lw_tbl) (hs : (T kf).1 = ref) (hfin : (T kf).2.2.2 = false) (hpt : parseFieldDescriptor (T kf).2.2.1 = some .boolean) (he : tb[q]? = some (4, ci, fs)) (hf : fs[kf]? = some (0, z)) (hd : decode cc pc = .ok (.putfield index, 3)) (hp : pc + 3 = pc')
    (k : ∀ M' : fMem, GO p l e R s m args below meth c cl D aC tb ad A nL cells slots Qf pc' lv st M' (kd M')) : GO p l e R s m args below meth c cl D aC tb ad A nL cells slots Qf pc lv (.int (fI v) :: .ref (ad q) :: st) M (fPz M q kf v kd) := by
  subst hp
  intro r hr H locs ls hl hP hS
  have hlt : kf < fs.length := (List.getElem?_eq_some_iff.mp hf).1
  unfold fPz at hr
  split at hr
  · rename_i h
    refine va_putN hC.1 hC.2.1 hC.2.2.2.2.1 hin ty0 hty hnm hC.2.2.2.1 hC.2.2.2.2.2.1 hP (fW_D hC.2.2.2.2.2.2.1 hC.2.2.2.2.2.2.2.1) hS q (fW_get he) hc kf hk (va_Nw.use rfl (hC.2.2.2.2.2.2.2.2 _ hw rfl)) (fun x h => by rw [← hs]; exact h) hfin hpt (fI_bool h) (fI_boolF h) (by simpa using hlt) hd (fun H1 locs1 hP1 _ hS1 => ?_)
    rw [fW_set (M' := fup M q kf v) he ?_ (fun x hx => fup_off _ _ _ _ _ hx)] at hP1
    · exact k _ r hr H1 locs1 ls hl hP1 hS1
    · exact (fEnt_put hf rfl).symm
  · cases hr
theorem g_ck {v : Int} {kd : Nat → fOp} (k : ∀ P : Nat, (47 ≤ P ∧ P < 59) → GO p l e R s m args below meth c cl D aC tb ad A nL cells slots Qf pc lv (.ref (ad P) :: st) M (kd P)) : GO p l e R s m args below meth c cl D aC tb ad A nL cells slots Qf pc lv (.ref (ad v.toNat) :: st) M (fCk v kd) := by
  intro r hr H locs ls hl hP hS
  unfold fCk at hr
  split at hr
  · rename_i h
    exact k _ h r hr H locs ls hl hP hS
  · cases hr
theorem g_lshr (hC : fCx p s m args c cl D aC tb ad A Ts cc own nL) {a n : Int} {kd : Int → fOp} (pc' : Nat) (hd : decode cc pc = .ok (.lshr, 1)) (hp : pc + 1 = pc')
    (k : ∀ x : Int, GO p l e R s m args below meth c cl D aC tb ad A nL cells slots Qf pc' lv (.long (fL x) :: st) M (kd x)) : GO p l e R s m args below meth c cl D aC tb ad A nL cells slots Qf pc lv (.int (fI n) :: .long (fL a) :: st) M (fSh a n kd) := by
  subst hp
  intro r hr H locs ls hl hP hS
  unfold fSh at hr
  split at hr
  · rename_i h
    exact lv_lshr hC.1 hC.2.1 hd (fL_shr h.1 h.2) (k _ r hr H locs ls hl hP hS)
  · cases hr
theorem g_land31 (hC : fCx p s m args c cl D aC tb ad A Ts cc own nL) {a : Int} {kd : Int → fOp} (pc' : Nat) (hd : decode cc pc = .ok (.land, 1)) (hp : pc + 1 = pc')
    (k : ∀ x : Int, GO p l e R s m args below meth c cl D aC tb ad A nL cells slots Qf pc' lv (.long (fL x) :: st) M (kd x)) : GO p l e R s m args below meth c cl D aC tb ad A nL cells slots Qf pc lv (.long (fL 31) :: .long (fL a) :: st) M (fA31 a kd) := by
  subst hp
  intro r hr H locs ls hl hP hS
  unfold fA31 at hr
  split at hr
  · rename_i h
    exact lv_land hC.1 hC.2.1 hd (by rw [fL_and31 h]; exact k _ r hr H locs ls hl hP hS)
  · cases hr
end FW
/-! contracts -/
def fOk (cl : List vw_C) (D : va_G) (aC : Nat → ClassId) (ad : Nat → Nat) (tb : List fEn) (M : fMem) (U : State) : Prop := va_P D cl (fW aC ad tb M) U.heap ∧ va_K D cl (fTY aC) U ∧ fInj ad tb.length ∧ fNw U
def fFr (ad : Nat → Nat) (tb : List fEn) : Nat → Prop := fun q => ∃ i, i < tb.length ∧ ad i = q
def fRv (rk : Nat) (ad : Nat → Nat) (a : Int) : Option Value := match rk with
  | 0 => some (.int (fI a))
  | 1 => some (.long (fL a))
  | 2 => none
  | _ => some (.ref (ad a.toNat))
def fQ (cl : List vw_C) (D : va_G) (aC : Nat → ClassId) (ad : Nat → Nat) (tb : List fEn) (rk : Nat) (r : Int × fMem) : Array Value → State → Outcome → State → Prop := fun _ st oc t => oc = .returned (fRv rk ad r.1) ∧ va_P D cl (fW aC ad tb r.2) t.heap ∧ va_F (fFr ad tb) st t
def fRm (fr lo : Nat) : Room := { frames := fr, cells := 0, slots := 0, locals := lo }
def fMt (l : Launch) (cl : List vw_C) (tb : List fEn) (y : MethodName) (cc : ByteArray) (mL : Nat) (rt : Option FieldType) (fr lo rk : Nat) (av : (Nat → Nat) → List Value) (M : fMem) (d : fOp) : Prop :=
  ∀ (D : va_G) (aC : Nat → ClassId) (ad : Nat → Nat) (r : Int × fMem), d = some r → Met l y (.code y cc mL rt :: goodTs) (fRm fr lo) (va_Pc (av ad) (fOk cl D aC ad tb M)) (fQ cl D aC ad tb rk r) 0 0 (fFr ad tb)
theorem fOk.blind {av : List Value} {cl : List vw_C} {D : va_G} {aC : Nat → ClassId} {ad : Nat → Nat} {tb : List fEn} {M : fMem} : FrameBlind (va_Pc av (fOk cl D aC ad tb M)) := by
  intro a U g mk h
  obtain ⟨e1, hP, hK, hi, hn⟩ := h
  exact ⟨e1, hP, va_K.moved (u := U) (U := U.calling g mk a) (Vm.Alike.refl U.vm) hK, hi, fNw.same (u := U) (U := U.calling g mk a) rfl hn⟩
theorem fMt.of {l : Launch} {cl : List vw_C} {tb : List fEn} {y : MethodName} {cc : ByteArray} {mL : Nat} {rt : Option FieldType} {fr lo rk : Nat} {av : (Nat → Nat) → List Value} {M : fMem} {d : fOp} (hy : plainName y.cls = true) (hlen : ∀ ad, (lg_sl (av ad)).length ≤ mL)
    (body : ∀ (p : Program) (e : Env) (s : State) (m : MethodId) (args : Array Value) (below : List Frame) (meth : Method) (c : Code) (D : va_G) (aC : Nat → ClassId) (ad : Nat → Nat), fCx p s m args c cl D aC tb ad (fFr ad tb) goodTs cc y.cls mL → meth.sig.returnType = rt → meth.locks = false →
      GO p l e (fRm fr lo) s m args below meth c cl D aC tb ad (fFr ad tb) mL 0 0 (fun r => MQ below (fQ cl D aC ad tb rk r) args s 0 0 (fFr ad tb)) 0 (lv_args 0 (av ad)) [] M d) : fMt l cl tb y cc mL rt fr lo rk av M d := by
  intro D aC ad r hr
  refine Met.ofW (cc := cc) (maxL := mL) (ret := rt) hy rfl ?_
  intro p e s m args below meth c s₁ B hml hv
  obtain ⟨rfl, hP, hK, hi, hn⟩ := hv
  have hts : ∀ w ∈ goodTs, w.before _ s = true := fun w hw => atoms_spec (ws := .code y cc mL rt :: goodTs) B.pre w (List.mem_cons_of_mem _ hw)
  rw [lg_entry_eq]
  exact body p e s m _ below meth c D aC ad ⟨B.exec, B.bytes, hml, findClass_of_methodNamed B.named, hts, hK, hi, fun i h => ⟨i, h, rfl⟩, hn⟩ B.returns B.notSynchronized r hr s.heap [] _ (lv_entry (av ad) (hlen ad)) hP va_S.rf
section FC
variable {p : Program} {l : Launch} {e : Env} {R : Room} {s : State} {m : MethodId} {args : Array Value} {below : List Frame} {meth : Method} {c : Code} {cl : List vw_C} {D : va_G} {aC : Nat → ClassId} {tb : List fEn} {ad : Nat → Nat} {A : Nat → Prop} {nL cells slots : Nat} {Qf : Int × fMem → State → Prop}
variable {cc : ByteArray} {own : String} {pc : Nat} {lv : List (Nat × Value)} {st stk : List Value} {M : fMem} {d : fOp}
theorem g_run (hC : fCx p s m args c cl D aC tb ad A goodTs cc own nL) {rk : Nat} {a : Array Value} {d' : fOp} {kd : Int → fMem → fOp} (pc' : Nat) (hp : pc + 3 = pc')
    (hr : ∀ r', d' = some r' → ∀ (H : Heap) (locs : List Loc) (ls : Array Slot), lv_has ls nL lv → va_P D cl (fW aC ad tb M) H → va_S A s.heap H locs → va_Run p l e R s m args below meth c H locs cells slots 0 0 (F0 m pc ls stk) st (fQ cl D aC ad tb rk r' a) (fFr ad tb))
    (st' : Int → List Value) (hst : ∀ v, (fRv rk ad v).toList ++ st = st' v)
    (k : ∀ (v : Int) (M1 : fMem), GO p l e R s m args below meth c cl D aC tb ad A nL cells slots Qf pc' lv (st' v) M1 (kd v M1)) : GO p l e R s m args below meth c cl D aC tb ad A nL cells slots Qf pc lv stk M (fCl d' kd) := by
  subst hp
  intro r hr0 H locs ls hl hP hS
  cases hd' : d' with
  | none => rw [hd'] at hr0; cases hr0
  | some r' =>
    obtain ⟨v, M1⟩ := r'
    rw [hd'] at hr0
    have hrun := hr _ hd' H locs ls hl hP hS
    intro T hT X
    obtain ⟨v', st₀, t, T', L, h0, X', hL, e1, e2, ⟨hv, hP1, hz, hk⟩, stp⟩ := hrun T hT X
    have hv' : v' = fRv rk ad v := by injection hv
    subst hv'
    rw [h0] at hz hk
    have hfr : ∀ q, fFr ad tb q → A q := by
      rintro q ⟨i, hi, rfl⟩
      exact hC.2.2.2.2.2.2.2.1 i hi
    have hS1 : va_S A s.heap T'.heap (locs ++ L) := ⟨Nat.le_trans hS.1 (by rw [e1]; exact hz), fun q h1 h2 => by rw [e1, hk q (Nat.lt_of_lt_of_le h1 hS.1) (fun z => h2 (hfr q z))]; exact hS.2.1 q h1 h2, fun q hq => by
      rcases List.mem_append.mp hq with h | h
      · exact hS.2.2 q h
      · exact hfr _ (hL q h)⟩
    obtain ⟨t2, a1, b1⟩ := k v M1 r hr0 T'.heap (locs ++ L) ls hl (by rw [e1]; exact hP1) hS1 T' rfl X'
    rw [← hst v] at a1
    exact ⟨t2, stp t2 a1, b1⟩
theorem g_cV (hC : fCx p s m args c cl D aC tb ad A goodTs cc own nL) {y : MethodName} {bytes : ByteArray} {mLc fr lo rk index : Nat} {rt : Option FieldType} {av : (Nat → Nat) → List Value} {d' : fOp} {kd : Int → fMem → fOp} {C : String} {T : u_T} {N ci q : Nat} {fs : List (Nat × Nat)} (pc' n : Nat) (As st : List Value) (hM : fMt l cl tb y bytes mLc rt fr lo rk av M d') (hav : av ad = .ref (ad q) :: As) (hs : stk = As.reverse ++ .ref (ad q) :: st) (he : tb[q]? = some (4, ci, fs)) (hc : cl[ci]? = some (C, T, N)) (hw : Cond.methodLink own index y ∈ goodTs) (hcode : Cond.code y bytes mLc rt ∈ goodTs) (hini : Cond.initialized y.cls ∈ goodTs) (hi : Cond.instanceMethod y ∈ goodTs) (hse : Cond.selects C y y ∈ goodTs) (hdd : y.cls ≠ "java/lang/invoke/MethodHandle" ∧ y.cls ≠ "java/lang/invoke/VarHandle" ∧ (parseMethodDescriptor y.desc).map (fun d => d.parameters.length) = some n) (hn : As.length = n) (hR : fr + 1 ≤ R.frames ∧ 8 + (mLc + 11) + lo ≤ R.locals) (hst8 : (st.map fun v => v.category).sum ≤ 8) (hcs : cells ≤ R.cells ∧ slots ≤ R.slots) (hd : decode cc pc = .ok (.invokevirtual index, 3)) (hp : pc + 3 = pc')
    (st' : Int → List Value) (hst : ∀ v, (fRv rk ad v).toList ++ st = st' v)
    (k : ∀ (v : Int) (M1 : fMem), GO p l e R s m args below meth c cl D aC tb ad A nL cells slots Qf pc' lv (st' v) M1 (kd v M1)) : GO p l e R s m args below meth c cl D aC tb ad A nL cells slots Qf pc lv stk M (fCl d' kd) := by
  refine g_run (rk := rk) (a := (Value.ref (ad q) :: As).toArray) hC pc' hp (fun r' hr' H locs ls hl hP hS => ?_) st' hst k
  exact va_runV (Ts := goodTs) ⟨hC.1, hC.2.1, hC.2.2.1, hC.2.2.2.1, hC.2.2.2.2.1⟩ (hM D aC ad r' hr') ⟨callB_of n hC.2.2.2.2.1 (goodTs_in hcode rfl) rfl rfl rfl (hC.2.2.2.2.1 _ hini) (hC.2.2.2.2.1 _ hw) hdd hR, hC.2.2.2.2.1 _ hi, hC.2.2.2.2.1 _ hse⟩ ⟨fOk.blind, va_recv hC.2.2.2.2.2.1 hP hc (fW_get he), fun U hU hW => ⟨by rw [hav], by rw [hU]; exact hP, va_K.moved hW.alike hC.2.2.2.2.2.1, hC.2.2.2.2.2.2.1, fNw.warm hW hC.2.2.2.2.2.2.2.2⟩⟩ rfl hn hl.1 hs (lv_room hst8) hd hcs
theorem g_cVN (hC : fCx p s m args c cl D aC tb ad A goodTs cc own nL) {y : MethodName} {bytes : ByteArray} {mLc fr lo rk index : Nat} {rt : Option FieldType} {av : (Nat → Nat) → List Value} {d' : fOp} {kd : Int → fMem → fOp} {C : String} {T : u_T} {N ci q : Nat} {fs : List (Nat × Nat)} {host : String} (pc' n : Nat) (As st : List Value) (hM : fMt l cl tb y bytes mLc rt fr lo rk av M d') (hav : av ad = .ref (ad q) :: As) (hs : stk = As.reverse ++ .ref (ad q) :: st) (he : tb[q]? = some (4, ci, fs)) (hc : cl[ci]? = some (C, T, N)) (hw : Cond.methodLinkNest own index y host ∈ lw_tbl) (hcode : Cond.code y bytes mLc rt ∈ goodTs) (hini : Cond.initialized y.cls ∈ goodTs) (hi : Cond.instanceMethod y ∈ goodTs) (hse : Cond.selects C y y ∈ goodTs) (hdd : y.cls ≠ "java/lang/invoke/MethodHandle" ∧ y.cls ≠ "java/lang/invoke/VarHandle" ∧ (parseMethodDescriptor y.desc).map (fun d => d.parameters.length) = some n) (hn : As.length = n) (hR : fr + 1 ≤ R.frames ∧ 8 + (mLc + 11) + lo ≤ R.locals) (hst8 : (st.map fun v => v.category).sum ≤ 8) (hcs : cells ≤ R.cells ∧ slots ≤ R.slots) (hd : decode cc pc = .ok (.invokevirtual index, 3)) (hp : pc + 3 = pc')
    (st' : Int → List Value) (hst : ∀ v, (fRv rk ad v).toList ++ st = st' v)
    (k : ∀ (v : Int) (M1 : fMem), GO p l e R s m args below meth c cl D aC tb ad A nL cells slots Qf pc' lv (st' v) M1 (kd v M1)) : GO p l e R s m args below meth c cl D aC tb ad A nL cells slots Qf pc lv stk M (fCl d' kd) := by
  refine g_run (rk := rk) (a := (Value.ref (ad q) :: As).toArray) hC pc' hp (fun r' hr' H locs ls hl hP hS => ?_) st' hst k
  exact va_runVN (Ts := goodTs) ⟨hC.1, hC.2.1, hC.2.2.1, hC.2.2.2.1, hC.2.2.2.2.1⟩ (hM D aC ad r' hr') ⟨va_cnB n hC.2.2.2.2.1 (goodTs_in hcode rfl) rfl rfl rfl (hC.2.2.2.2.2.2.2.2 _ hw rfl) (hC.2.2.2.2.1 _ hini) hdd hR, hC.2.2.2.2.1 _ hi, hC.2.2.2.2.1 _ hse⟩ ⟨fOk.blind, va_recv hC.2.2.2.2.2.1 hP hc (fW_get he), fun U hU hW => ⟨by rw [hav], by rw [hU]; exact hP, va_K.moved hW.alike hC.2.2.2.2.2.1, hC.2.2.2.2.2.2.1, fNw.warm hW hC.2.2.2.2.2.2.2.2⟩⟩ rfl hn hl.1 hs (lv_room hst8) hd hcs
theorem g_cS (hC : fCx p s m args c cl D aC tb ad A goodTs cc own nL) {y : MethodName} {bytes : ByteArray} {mLc fr lo rk index : Nat} {rt : Option FieldType} {av : (Nat → Nat) → List Value} {d' : fOp} {kd : Int → fMem → fOp} (pc' n : Nat) (As st : List Value) (hM : fMt l cl tb y bytes mLc rt fr lo rk av M d') (hav : av ad = As) (hs : stk = As.reverse ++ st) (hw : Cond.methodLink own index y ∈ goodTs) (hcode : Cond.code y bytes mLc rt ∈ goodTs) (hini : Cond.initialized y.cls ∈ goodTs) (hsta : Cond.static y ∈ goodTs) (hdd : y.cls ≠ "java/lang/invoke/MethodHandle" ∧ y.cls ≠ "java/lang/invoke/VarHandle" ∧ (parseMethodDescriptor y.desc).map (fun d => d.parameters.length) = some n) (hn : As.length = n) (hR : fr + 1 ≤ R.frames ∧ 8 + (mLc + 11) + lo ≤ R.locals) (hst8 : (st.map fun v => v.category).sum ≤ 8) (hcs : cells ≤ R.cells ∧ slots ≤ R.slots) (hd : decode cc pc = .ok (.invokestatic index, 3)) (hp : pc + 3 = pc')
    (st' : Int → List Value) (hst : ∀ v, (fRv rk ad v).toList ++ st = st' v)
    (k : ∀ (v : Int) (M1 : fMem), GO p l e R s m args below meth c cl D aC tb ad A nL cells slots Qf pc' lv (st' v) M1 (kd v M1)) : GO p l e R s m args below meth c cl D aC tb ad A nL cells slots Qf pc lv stk M (fCl d' kd) := by
  refine g_run (rk := rk) (a := As.toArray) hC pc' hp (fun r' hr' H locs ls hl hP hS => ?_) st' hst k
  exact va_runS (Ts := goodTs) ⟨hC.1, hC.2.1, hC.2.2.1, hC.2.2.2.1, hC.2.2.2.2.1⟩ (hM D aC ad r' hr') ⟨callB_of n hC.2.2.2.2.1 (goodTs_in hcode rfl) rfl rfl rfl (hC.2.2.2.2.1 _ hini) (hC.2.2.2.2.1 _ hw) hdd hR, hC.2.2.2.2.1 _ hsta⟩ ⟨fOk.blind, fun U hU hW => ⟨by rw [hav], by rw [hU]; exact hP, va_K.moved hW.alike hC.2.2.2.2.2.1, hC.2.2.2.2.2.2.1, fNw.warm hW hC.2.2.2.2.2.2.2.2⟩⟩ rfl hn hl.1 hs (lv_room hst8) hd hcs
theorem g_cSN (hC : fCx p s m args c cl D aC tb ad A goodTs cc own nL) {y : MethodName} {bytes : ByteArray} {mLc fr lo rk index : Nat} {rt : Option FieldType} {av : (Nat → Nat) → List Value} {d' : fOp} {kd : Int → fMem → fOp} {host : String} (pc' n : Nat) (As st : List Value) (hM : fMt l cl tb y bytes mLc rt fr lo rk av M d') (hav : av ad = As) (hs : stk = As.reverse ++ st) (hw : Cond.methodLinkNest own index y host ∈ lw_tbl) (hcode : Cond.code y bytes mLc rt ∈ goodTs) (hini : Cond.initialized y.cls ∈ goodTs) (hsta : Cond.static y ∈ goodTs) (hdd : y.cls ≠ "java/lang/invoke/MethodHandle" ∧ y.cls ≠ "java/lang/invoke/VarHandle" ∧ (parseMethodDescriptor y.desc).map (fun d => d.parameters.length) = some n) (hn : As.length = n) (hR : fr + 1 ≤ R.frames ∧ 8 + (mLc + 11) + lo ≤ R.locals) (hst8 : (st.map fun v => v.category).sum ≤ 8) (hcs : cells ≤ R.cells ∧ slots ≤ R.slots) (hd : decode cc pc = .ok (.invokestatic index, 3)) (hp : pc + 3 = pc')
    (st' : Int → List Value) (hst : ∀ v, (fRv rk ad v).toList ++ st = st' v)
    (k : ∀ (v : Int) (M1 : fMem), GO p l e R s m args below meth c cl D aC tb ad A nL cells slots Qf pc' lv (st' v) M1 (kd v M1)) : GO p l e R s m args below meth c cl D aC tb ad A nL cells slots Qf pc lv stk M (fCl d' kd) := by
  refine g_run (rk := rk) (a := As.toArray) hC pc' hp (fun r' hr' H locs ls hl hP hS => ?_) st' hst k
  exact va_runSN (Ts := goodTs) ⟨hC.1, hC.2.1, hC.2.2.1, hC.2.2.2.1, hC.2.2.2.2.1⟩ (hM D aC ad r' hr') ⟨va_cnB n hC.2.2.2.2.1 (goodTs_in hcode rfl) rfl rfl rfl (hC.2.2.2.2.2.2.2.2 _ hw rfl) (hC.2.2.2.2.1 _ hini) hdd hR, hC.2.2.2.2.1 _ hsta, trivial⟩ ⟨fOk.blind, fun U hU hW => ⟨by rw [hav], by rw [hU]; exact hP, va_K.moved hW.alike hC.2.2.2.2.2.1, hC.2.2.2.2.2.2.1, fNw.warm hW hC.2.2.2.2.2.2.2.2⟩⟩ rfl hn hl.1 hs (lv_room hst8) hd hcs
end FC
section FR
variable {p : Program} {l : Launch} {e : Env} {R : Room} {s : State} {m : MethodId} {args : Array Value} {below : List Frame} {meth : Method} {c : Code} {cl : List vw_C} {D : va_G} {aC : Nat → ClassId} {tb : List fEn} {ad : Nat → Nat} {nL : Nat}
variable {Ts : List Cond} {cc : ByteArray} {own : String} {pc : Nat} {lv : List (Nat × Value)} {M : fMem}
theorem g_ireturn (hC : fCx p s m args c cl D aC tb ad (fFr ad tb) Ts cc own nL) (hr : meth.sig.returnType = some .int) (hk : meth.locks = false) {v : Int} (hd : decode cc pc = .ok (.ireturn, 1)) : GO p l e R s m args below meth c cl D aC tb ad (fFr ad tb) nL 0 0 (fun r => MQ below (fQ cl D aC ad tb 0 r) args s 0 0 (fFr ad tb)) pc lv [.int (fI v)] M (some (v, M)) := by
  intro r hr0 H locs ls hl hP hS
  cases hr0
  exact W.iret hC.1 hC.2.1 hr (fun t ht hW => ⟨rfl, by rw [ht]; exact hP, hS.F ht⟩) hS.2.2 hd hk
theorem g_zreturn (hC : fCx p s m args c cl D aC tb ad (fFr ad tb) Ts cc own nL) (hr : meth.sig.returnType = some .boolean) (hk : meth.locks = false) {v : Int} (hd : decode cc pc = .ok (.ireturn, 1)) : GO p l e R s m args below meth c cl D aC tb ad (fFr ad tb) nL 0 0 (fun r => MQ below (fQ cl D aC ad tb 0 r) args s 0 0 (fFr ad tb)) pc lv [.int (fI v)] M (fRz v M) := by
  intro r hr0 H locs ls hl hP hS
  unfold fRz at hr0
  split at hr0
  · rename_i h
    cases hr0
    exact W.zret hC.1 hC.2.1 hr (fI_bool h) (fun t ht hW => ⟨rfl, by rw [ht]; exact hP, hS.F ht⟩) hS.2.2 hd hk
  · cases hr0
theorem g_lreturn (hC : fCx p s m args c cl D aC tb ad (fFr ad tb) Ts cc own nL) (hr : meth.sig.returnType = some .long) (hk : meth.locks = false) {v : Int} (hd : decode cc pc = .ok (.lreturn, 1)) : GO p l e R s m args below meth c cl D aC tb ad (fFr ad tb) nL 0 0 (fun r => MQ below (fQ cl D aC ad tb 1 r) args s 0 0 (fFr ad tb)) pc lv [.long (fL v)] M (some (v, M)) := by
  intro r hr0 H locs ls hl hP hS
  cases hr0
  exact W.lret hC.1 hC.2.1 hr (fun t ht hW => ⟨rfl, by rw [ht]; exact hP, hS.F ht⟩) hS.2.2 hd hk
theorem g_return (hC : fCx p s m args c cl D aC tb ad (fFr ad tb) Ts cc own nL) (hr : meth.sig.returnType = none) (hk : meth.locks = false) (hd : decode cc pc = .ok (.return_, 1)) : GO p l e R s m args below meth c cl D aC tb ad (fFr ad tb) nL 0 0 (fun r => MQ below (fQ cl D aC ad tb 2 r) args s 0 0 (fFr ad tb)) pc lv [] M (some (0, M)) := by
  intro r hr0 H locs ls hl hP hS
  cases hr0
  exact W.vret hC.1 hC.2.1 hr (fun t ht hW => ⟨rfl, by rw [ht]; exact hP, hS.F ht⟩) hS.2.2 hd hk
theorem g_areturn (hC : fCx p s m args c cl D aC tb ad (fFr ad tb) Ts cc own nL) {C : String} (hr : meth.sig.returnType = some (.object C)) (hk : meth.locks = false) {q : Nat} (hd : decode cc pc = .ok (.areturn, 1)) : GO p l e R s m args below meth c cl D aC tb ad (fFr ad tb) nL 0 0 (fun r => MQ below (fQ cl D aC ad tb 3 r) args s 0 0 (fFr ad tb)) pc lv [.ref (ad q)] M (some ((q : Int), M)) := by
  intro r hr0 H locs ls hl hP hS
  cases hr0
  exact W.aret hC.1 hC.2.1 hr (Or.inl ⟨_, rfl⟩) (Or.inr ⟨_, rfl⟩) (fun t ht hW => ⟨by simp [fRv], by rw [ht]; exact hP, hS.F ht⟩) hS.2.2 hd hk
end FR
section FX
variable {p : Program} {l : Launch} {e : Env} {R : Room} {s : State} {m : MethodId} {args : Array Value} {below : List Frame} {meth : Method} {c : Code} {cl : List vw_C} {D : va_G} {aC : Nat → ClassId} {tb : List fEn} {ad : Nat → Nat} {A : Nat → Prop} {nL cells slots : Nat} {Qf : Int × fMem → State → Prop}
variable {Ts : List Cond} {cc : ByteArray} {own : String} {pc : Nat} {lv : List (Nat × Value)} {st : List Value} {M : fMem} {d : fOp}
def fMx {α : Type} (a b : Int) (k : Int → Option α) : Option α := if InI a ∧ InI b then k (if a < b then b else a) else none
theorem g_max (hC : fCx p s m args c cl D aC tb ad A Ts cc own nL) {a b : Int} {kd : Int → fOp} {index : Nat} (pc' : Nat) (hw : Cond.methodLink own index Lib.Math.max.name ∈ Ts ∧ Cond.static Lib.Math.max.name ∈ Ts ∧ Cond.initialized "java/lang/Math" ∈ Ts ∧ Cond.code Lib.Math.max.name Lib.Math.max.code 2 (some .int) ∈ Ts) (hR : 1 ≤ R.frames ∧ (st.map fun v => v.category).sum + 13 ≤ R.locals) (hcs : cells ≤ R.cells ∧ slots ≤ R.slots) (hd : decode cc pc = .ok (.invokestatic index, 3)) (hp : pc + 3 = pc')
    (k : ∀ x : Int, GO p l e R s m args below meth c cl D aC tb ad A nL cells slots Qf pc' lv (.int (fI x) :: st) M (kd x)) : GO p l e R s m args below meth c cl D aC tb ad A nL cells slots Qf pc lv (.int (fI b) :: .int (fI a) :: st) M (fMx a b kd) := by
  subst hp
  intro r hr H locs ls hl hP hS
  unfold fMx at hr
  split at hr
  · rename_i h
    refine va_mmax hC.1 hC.2.1 (by rw [hC.2.2.1, hl.1]) hC.2.2.2.1 (hC.2.2.2.2.1 _ hw.1) (hC.2.2.2.2.1 _ hw.2.1) (hC.2.2.2.2.1 _ hw.2.2.1) (hC.2.2.2.2.1 _ hw.2.2.2) hR.1 hR.2 hcs.1 hcs.2 hd ?_
    have e1 : (if fI a < fI b then fI b else fI a) = fI (if a < b then b else a) := by
      simp only [fI_lt h.1 h.2]
      split <;> rfl
    rw [e1]
    exact k _ r hr H locs ls hl hP hS
  · cases hr
theorem g_alen (hC : fCx p s m args c cl D aC tb ad A Ts cc own nL) {q n : Nat} {xs : List (Nat × Nat)} (pc' : Nat) (he : tb[q]? = some (0, n, xs)) (hd : decode cc pc = .ok (.arraylength, 1)) (hp : pc + 1 = pc')
    (k : GO p l e R s m args below meth c cl D aC tb ad A nL cells slots Qf pc' lv (.int (fI (n : Int)) :: st) M d) : GO p l e R s m args below meth c cl D aC tb ad A nL cells slots Qf pc lv (.ref (ad q) :: st) M d := by
  subst hp
  exact fun r hr H locs ls hl hP hS => va_alen (ty := .int) hC.1 hC.2.1 hC.2.2.2.2.2.1 hP q 0 (fW_get he) rfl (fI_ofNat n) hd (k r hr H locs ls hl hP hS)
/-- Arrays.fill -/
def fFil (M : fMem) (q n : Nat) (v : Int) : fOp := some (0, fun p j => if p = q ∧ j < n then v else M p j)
end FX
end
section
/-! names, printed by a program of mine out of the Statement -/
def RX0 : String := "RevisionStore$Copy"
def RX1 : String := "RevisionStore$Difference"
def RX2 : String := "RevisionStore$History"
def RX3 : String := "RevisionStore$Merger"
def RX4 : String := "RevisionStore$Text"
def RX5 : String := "RevisionStore"
def RX6 : String := "RevisionStoreModel"
def RJ7 : String := "java/util/Arrays"
def RL : String := "RevisionStoreLaw"
def TX0 : u_T := fun k => match k with
  | 0 => (RX0, "base", "I", false)
  | 1 => (RX0, "gone", "Z", false)
  | 2 => (RX0, "text", "J", false)
  | _ => (RX0, "stickyTag", "I", false)
def tyX0 : Nat → FieldType := fun k => match k with
  | 0 => .int
  | 1 => .boolean
  | 2 => .long
  | _ => .int
theorem nmX0 : ∀ a, a < 4 → ∀ b, b < 4 → a ≠ b → (TX0 a).2.1 ≠ (TX0 b).2.1 := by decide +kernel
theorem tyX0_ok : ∀ k, k < 4 → parseFieldDescriptor (TX0 k).2.2.1 = some (tyX0 k) := by decide +kernel
theorem layX0_0 : u_lay RX0 TX0 0 ∈ lw_tbl := List.mem_of_getElem? (i := 153) (by decide +kernel)
theorem layX0_1 : u_lay RX0 TX0 1 ∈ lw_tbl := List.mem_of_getElem? (i := 155) (by decide +kernel)
theorem layX0_2 : u_lay RX0 TX0 2 ∈ lw_tbl := List.mem_of_getElem? (i := 157) (by decide +kernel)
theorem layX0_3 : u_lay RX0 TX0 3 ∈ lw_tbl := List.mem_of_getElem? (i := 159) (by decide +kernel)
theorem inX0 : ∀ w ∈ u_ws RX0 TX0 4, w ∈ goodTs := by
  intro w h
  obtain ⟨k, hk, rfl⟩ := List.mem_map.mp h
  have hk := List.mem_range.mp hk
  rcases (show k = 0 ∨ k = 1 ∨ k = 2 ∨ k = 3 by omega) with rfl | rfl | rfl | rfl
  · exact goodTs_mem layX0_0 (by decide +kernel)
  · exact goodTs_mem layX0_1 (by decide +kernel)
  · exact goodTs_mem layX0_2 (by decide +kernel)
  · exact goodTs_mem layX0_3 (by decide +kernel)
def TX1 : u_T := fun k => match k with
  | 0 => (RX1, "first", "[I", true)
  | 1 => (RX1, "second", "[I", true)
  | 2 => (RX1, "firstCount", "I", false)
  | 3 => (RX1, "secondCount", "I", false)
  | 4 => (RX1, "common", "[[I", true)
  | 5 => (RX1, "partners", "[I", true)
  | _ => (RX1, "pairCount", "I", false)
def tyX1 : Nat → FieldType := fun k => match k with
  | 0 => .array .int
  | 1 => .array .int
  | 2 => .int
  | 3 => .int
  | 4 => .array (.array .int)
  | 5 => .array .int
  | _ => .int
theorem nmX1 : ∀ a, a < 7 → ∀ b, b < 7 → a ≠ b → (TX1 a).2.1 ≠ (TX1 b).2.1 := by decide +kernel
theorem tyX1_ok : ∀ k, k < 7 → parseFieldDescriptor (TX1 k).2.2.1 = some (tyX1 k) := by decide +kernel
theorem layX1_0 : u_lay RX1 TX1 0 ∈ lw_tbl := List.mem_of_getElem? (i := 182) (by decide +kernel)
theorem layX1_1 : u_lay RX1 TX1 1 ∈ lw_tbl := List.mem_of_getElem? (i := 184) (by decide +kernel)
theorem layX1_2 : u_lay RX1 TX1 2 ∈ lw_tbl := List.mem_of_getElem? (i := 186) (by decide +kernel)
theorem layX1_3 : u_lay RX1 TX1 3 ∈ lw_tbl := List.mem_of_getElem? (i := 188) (by decide +kernel)
theorem layX1_4 : u_lay RX1 TX1 4 ∈ lw_tbl := List.mem_of_getElem? (i := 190) (by decide +kernel)
theorem layX1_5 : u_lay RX1 TX1 5 ∈ lw_tbl := List.mem_of_getElem? (i := 192) (by decide +kernel)
theorem layX1_6 : u_lay RX1 TX1 6 ∈ lw_tbl := List.mem_of_getElem? (i := 194) (by decide +kernel)
theorem inX1 : ∀ w ∈ u_ws RX1 TX1 7, w ∈ goodTs := by
  intro w h
  obtain ⟨k, hk, rfl⟩ := List.mem_map.mp h
  have hk := List.mem_range.mp hk
  rcases (show k = 0 ∨ k = 1 ∨ k = 2 ∨ k = 3 ∨ k = 4 ∨ k = 5 ∨ k = 6 by omega) with rfl | rfl | rfl | rfl | rfl | rfl | rfl
  · exact goodTs_mem layX1_0 (by decide +kernel)
  · exact goodTs_mem layX1_1 (by decide +kernel)
  · exact goodTs_mem layX1_2 (by decide +kernel)
  · exact goodTs_mem layX1_3 (by decide +kernel)
  · exact goodTs_mem layX1_4 (by decide +kernel)
  · exact goodTs_mem layX1_5 (by decide +kernel)
  · exact goodTs_mem layX1_6 (by decide +kernel)
def TX2 : u_T := fun k => match k with
  | 0 => (RX2, "texts", "[J", true)
  | 1 => (RX2, "deaths", "[Z", true)
  | 2 => (RX2, "homes", "[I", true)
  | 3 => (RX2, "ranks", "[I", true)
  | 4 => (RX2, "befores", "[I", true)
  | 5 => (RX2, "count", "I", false)
  | 6 => (RX2, "points", "[I", true)
  | 7 => (RX2, "magics", "[I", true)
  | 8 => (RX2, "lengths", "[I", true)
  | 9 => (RX2, "tips", "[I", true)
  | 10 => (RX2, "branchCount", "I", false)
  | 11 => (RX2, "vendor", "I", false)
  | 12 => (RX2, "defaultBranch", "I", false)
  | _ => (RX2, "names", "[I", true)
def tyX2 : Nat → FieldType := fun k => match k with
  | 0 => .array .long
  | 1 => .array .boolean
  | 2 => .array .int
  | 3 => .array .int
  | 4 => .array .int
  | 5 => .int
  | 6 => .array .int
  | 7 => .array .int
  | 8 => .array .int
  | 9 => .array .int
  | 10 => .int
  | 11 => .int
  | 12 => .int
  | _ => .array .int
theorem nmX2 : ∀ a, a < 14 → ∀ b, b < 14 → a ≠ b → (TX2 a).2.1 ≠ (TX2 b).2.1 := by decide +kernel
theorem tyX2_ok : ∀ k, k < 14 → parseFieldDescriptor (TX2 k).2.2.1 = some (tyX2 k) := by decide +kernel
theorem layX2_0 : u_lay RX2 TX2 0 ∈ lw_tbl := List.mem_of_getElem? (i := 106) (by decide +kernel)
theorem layX2_1 : u_lay RX2 TX2 1 ∈ lw_tbl := List.mem_of_getElem? (i := 108) (by decide +kernel)
theorem layX2_2 : u_lay RX2 TX2 2 ∈ lw_tbl := List.mem_of_getElem? (i := 110) (by decide +kernel)
theorem layX2_3 : u_lay RX2 TX2 3 ∈ lw_tbl := List.mem_of_getElem? (i := 112) (by decide +kernel)
theorem layX2_4 : u_lay RX2 TX2 4 ∈ lw_tbl := List.mem_of_getElem? (i := 114) (by decide +kernel)
theorem layX2_5 : u_lay RX2 TX2 5 ∈ lw_tbl := List.mem_of_getElem? (i := 116) (by decide +kernel)
theorem layX2_6 : u_lay RX2 TX2 6 ∈ lw_tbl := List.mem_of_getElem? (i := 118) (by decide +kernel)
theorem layX2_7 : u_lay RX2 TX2 7 ∈ lw_tbl := List.mem_of_getElem? (i := 120) (by decide +kernel)
theorem layX2_8 : u_lay RX2 TX2 8 ∈ lw_tbl := List.mem_of_getElem? (i := 122) (by decide +kernel)
theorem layX2_9 : u_lay RX2 TX2 9 ∈ lw_tbl := List.mem_of_getElem? (i := 124) (by decide +kernel)
theorem layX2_10 : u_lay RX2 TX2 10 ∈ lw_tbl := List.mem_of_getElem? (i := 126) (by decide +kernel)
theorem layX2_11 : u_lay RX2 TX2 11 ∈ lw_tbl := List.mem_of_getElem? (i := 128) (by decide +kernel)
theorem layX2_12 : u_lay RX2 TX2 12 ∈ lw_tbl := List.mem_of_getElem? (i := 130) (by decide +kernel)
theorem layX2_13 : u_lay RX2 TX2 13 ∈ lw_tbl := List.mem_of_getElem? (i := 132) (by decide +kernel)
theorem inX2 : ∀ w ∈ u_ws RX2 TX2 14, w ∈ goodTs := by
  intro w h
  obtain ⟨k, hk, rfl⟩ := List.mem_map.mp h
  have hk := List.mem_range.mp hk
  rcases (show k = 0 ∨ k = 1 ∨ k = 2 ∨ k = 3 ∨ k = 4 ∨ k = 5 ∨ k = 6 ∨ k = 7 ∨ k = 8 ∨ k = 9 ∨ k = 10 ∨ k = 11 ∨ k = 12 ∨ k = 13 by omega) with rfl | rfl | rfl | rfl | rfl | rfl | rfl | rfl | rfl | rfl | rfl | rfl | rfl | rfl
  · exact goodTs_mem layX2_0 (by decide +kernel)
  · exact goodTs_mem layX2_1 (by decide +kernel)
  · exact goodTs_mem layX2_2 (by decide +kernel)
  · exact goodTs_mem layX2_3 (by decide +kernel)
  · exact goodTs_mem layX2_4 (by decide +kernel)
  · exact goodTs_mem layX2_5 (by decide +kernel)
  · exact goodTs_mem layX2_6 (by decide +kernel)
  · exact goodTs_mem layX2_7 (by decide +kernel)
  · exact goodTs_mem layX2_8 (by decide +kernel)
  · exact goodTs_mem layX2_9 (by decide +kernel)
  · exact goodTs_mem layX2_10 (by decide +kernel)
  · exact goodTs_mem layX2_11 (by decide +kernel)
  · exact goodTs_mem layX2_12 (by decide +kernel)
  · exact goodTs_mem layX2_13 (by decide +kernel)
def TX3 : u_T := fun k => match k with
  | 0 => (RX3, "mine", "LRevisionStore$Difference;", true)
  | 1 => (RX3, "theirs", "LRevisionStore$Difference;", true)
  | 2 => (RX3, "text", "J", false)
  | 3 => (RX3, "lineCount", "I", false)
  | _ => (RX3, "overlap", "Z", false)
def tyX3 : Nat → FieldType := fun k => match k with
  | 0 => .object "RevisionStore$Difference"
  | 1 => .object "RevisionStore$Difference"
  | 2 => .long
  | 3 => .int
  | _ => .boolean
theorem nmX3 : ∀ a, a < 5 → ∀ b, b < 5 → a ≠ b → (TX3 a).2.1 ≠ (TX3 b).2.1 := by decide +kernel
theorem tyX3_ok : ∀ k, k < 5 → parseFieldDescriptor (TX3 k).2.2.1 = some (tyX3 k) := by decide +kernel
theorem layX3_0 : u_lay RX3 TX3 0 ∈ lw_tbl := List.mem_of_getElem? (i := 212) (by decide +kernel)
theorem layX3_1 : u_lay RX3 TX3 1 ∈ lw_tbl := List.mem_of_getElem? (i := 214) (by decide +kernel)
theorem layX3_2 : u_lay RX3 TX3 2 ∈ lw_tbl := List.mem_of_getElem? (i := 216) (by decide +kernel)
theorem layX3_3 : u_lay RX3 TX3 3 ∈ lw_tbl := List.mem_of_getElem? (i := 218) (by decide +kernel)
theorem layX3_4 : u_lay RX3 TX3 4 ∈ lw_tbl := List.mem_of_getElem? (i := 220) (by decide +kernel)
theorem inX3 : ∀ w ∈ u_ws RX3 TX3 5, w ∈ goodTs := by
  intro w h
  obtain ⟨k, hk, rfl⟩ := List.mem_map.mp h
  have hk := List.mem_range.mp hk
  rcases (show k = 0 ∨ k = 1 ∨ k = 2 ∨ k = 3 ∨ k = 4 by omega) with rfl | rfl | rfl | rfl | rfl
  · exact goodTs_mem layX3_0 (by decide +kernel)
  · exact goodTs_mem layX3_1 (by decide +kernel)
  · exact goodTs_mem layX3_2 (by decide +kernel)
  · exact goodTs_mem layX3_3 (by decide +kernel)
  · exact goodTs_mem layX3_4 (by decide +kernel)
def TX5 : u_T := fun k => match k with
  | 0 => (RX5, "histories", "[LRevisionStore$History;", true)
  | 1 => (RX5, "copies", "[LRevisionStore$Copy;", true)
  | 2 => (RX5, "tagSorts", "[I", true)
  | 3 => (RX5, "difference", "LRevisionStore$Difference;", true)
  | _ => (RX5, "merger", "LRevisionStore$Merger;", true)
def tyX5 : Nat → FieldType := fun k => match k with
  | 0 => .array (.object "RevisionStore$History")
  | 1 => .array (.object "RevisionStore$Copy")
  | 2 => .array .int
  | 3 => .object "RevisionStore$Difference"
  | _ => .object "RevisionStore$Merger"
theorem nmX5 : ∀ a, a < 5 → ∀ b, b < 5 → a ≠ b → (TX5 a).2.1 ≠ (TX5 b).2.1 := by decide +kernel
theorem tyX5_ok : ∀ k, k < 5 → parseFieldDescriptor (TX5 k).2.2.1 = some (tyX5 k) := by decide +kernel
theorem layX5_0 : u_lay RX5 TX5 0 ∈ lw_tbl := List.mem_of_getElem? (i := 228) (by decide +kernel)
theorem layX5_1 : u_lay RX5 TX5 1 ∈ lw_tbl := List.mem_of_getElem? (i := 230) (by decide +kernel)
theorem layX5_2 : u_lay RX5 TX5 2 ∈ lw_tbl := List.mem_of_getElem? (i := 232) (by decide +kernel)
theorem layX5_3 : u_lay RX5 TX5 3 ∈ lw_tbl := List.mem_of_getElem? (i := 234) (by decide +kernel)
theorem layX5_4 : u_lay RX5 TX5 4 ∈ lw_tbl := List.mem_of_getElem? (i := 236) (by decide +kernel)
theorem inX5 : ∀ w ∈ u_ws RX5 TX5 5, w ∈ goodTs := by
  intro w h
  obtain ⟨k, hk, rfl⟩ := List.mem_map.mp h
  have hk := List.mem_range.mp hk
  rcases (show k = 0 ∨ k = 1 ∨ k = 2 ∨ k = 3 ∨ k = 4 by omega) with rfl | rfl | rfl | rfl | rfl
  · exact goodTs_mem layX5_0 (by decide +kernel)
  · exact goodTs_mem layX5_1 (by decide +kernel)
  · exact goodTs_mem layX5_2 (by decide +kernel)
  · exact goodTs_mem layX5_3 (by decide +kernel)
  · exact goodTs_mem layX5_4 (by decide +kernel)
def TX6 : u_T := fun k => match k with
  | 0 => (RX6, "count", "[I", true)
  | 1 => (RX6, "text", "[J", true)
  | 2 => (RX6, "gone", "[Z", true)
  | 3 => (RX6, "branchOf", "[I", true)
  | 4 => (RX6, "place", "[I", true)
  | 5 => (RX6, "branches", "[I", true)
  | 6 => (RX6, "point", "[I", true)
  | 7 => (RX6, "magic", "[I", true)
  | 8 => (RX6, "vendor", "[I", true)
  | 9 => (RX6, "standard", "[I", true)
  | 10 => (RX6, "sort", "[I", true)
  | 11 => (RX6, "names", "[I", true)
  | 12 => (RX6, "entry", "[I", true)
  | 13 => (RX6, "out", "[Z", true)
  | 14 => (RX6, "mine", "[J", true)
  | 15 => (RX6, "stuck", "[I", true)
  | 16 => (RX6, "common", "[I", true)
  | 17 => (RX6, "withA", "[I", true)
  | 18 => (RX6, "withB", "[I", true)
  | 19 => (RX6, "merged", "[I", true)
  | 20 => (RX6, "lines", "I", false)
  | _ => (RX6, "overlaps", "Z", false)
def tyX6 : Nat → FieldType := fun k => match k with
  | 0 => .array .int
  | 1 => .array .long
  | 2 => .array .boolean
  | 3 => .array .int
  | 4 => .array .int
  | 5 => .array .int
  | 6 => .array .int
  | 7 => .array .int
  | 8 => .array .int
  | 9 => .array .int
  | 10 => .array .int
  | 11 => .array .int
  | 12 => .array .int
  | 13 => .array .boolean
  | 14 => .array .long
  | 15 => .array .int
  | 16 => .array .int
  | 17 => .array .int
  | 18 => .array .int
  | 19 => .array .int
  | 20 => .int
  | _ => .boolean
theorem nmX6 : ∀ a, a < 22 → ∀ b, b < 22 → a ≠ b → (TX6 a).2.1 ≠ (TX6 b).2.1 := by decide +kernel
theorem tyX6_ok : ∀ k, k < 22 → parseFieldDescriptor (TX6 k).2.2.1 = some (tyX6 k) := by decide +kernel
theorem layX6_0 : u_lay RX6 TX6 0 ∈ lw_tbl := List.mem_of_getElem? (i := 549) (by decide +kernel)
theorem layX6_1 : u_lay RX6 TX6 1 ∈ lw_tbl := List.mem_of_getElem? (i := 551) (by decide +kernel)
theorem layX6_2 : u_lay RX6 TX6 2 ∈ lw_tbl := List.mem_of_getElem? (i := 553) (by decide +kernel)
theorem layX6_3 : u_lay RX6 TX6 3 ∈ lw_tbl := List.mem_of_getElem? (i := 555) (by decide +kernel)
theorem layX6_4 : u_lay RX6 TX6 4 ∈ lw_tbl := List.mem_of_getElem? (i := 557) (by decide +kernel)
theorem layX6_5 : u_lay RX6 TX6 5 ∈ lw_tbl := List.mem_of_getElem? (i := 559) (by decide +kernel)
theorem layX6_6 : u_lay RX6 TX6 6 ∈ lw_tbl := List.mem_of_getElem? (i := 561) (by decide +kernel)
theorem layX6_7 : u_lay RX6 TX6 7 ∈ lw_tbl := List.mem_of_getElem? (i := 563) (by decide +kernel)
theorem layX6_8 : u_lay RX6 TX6 8 ∈ lw_tbl := List.mem_of_getElem? (i := 565) (by decide +kernel)
theorem layX6_9 : u_lay RX6 TX6 9 ∈ lw_tbl := List.mem_of_getElem? (i := 567) (by decide +kernel)
theorem layX6_10 : u_lay RX6 TX6 10 ∈ lw_tbl := List.mem_of_getElem? (i := 569) (by decide +kernel)
theorem layX6_11 : u_lay RX6 TX6 11 ∈ lw_tbl := List.mem_of_getElem? (i := 571) (by decide +kernel)
theorem layX6_12 : u_lay RX6 TX6 12 ∈ lw_tbl := List.mem_of_getElem? (i := 573) (by decide +kernel)
theorem layX6_13 : u_lay RX6 TX6 13 ∈ lw_tbl := List.mem_of_getElem? (i := 575) (by decide +kernel)
theorem layX6_14 : u_lay RX6 TX6 14 ∈ lw_tbl := List.mem_of_getElem? (i := 577) (by decide +kernel)
theorem layX6_15 : u_lay RX6 TX6 15 ∈ lw_tbl := List.mem_of_getElem? (i := 579) (by decide +kernel)
theorem layX6_16 : u_lay RX6 TX6 16 ∈ lw_tbl := List.mem_of_getElem? (i := 581) (by decide +kernel)
theorem layX6_17 : u_lay RX6 TX6 17 ∈ lw_tbl := List.mem_of_getElem? (i := 583) (by decide +kernel)
theorem layX6_18 : u_lay RX6 TX6 18 ∈ lw_tbl := List.mem_of_getElem? (i := 585) (by decide +kernel)
theorem layX6_19 : u_lay RX6 TX6 19 ∈ lw_tbl := List.mem_of_getElem? (i := 587) (by decide +kernel)
theorem layX6_20 : u_lay RX6 TX6 20 ∈ lw_tbl := List.mem_of_getElem? (i := 589) (by decide +kernel)
theorem layX6_21 : u_lay RX6 TX6 21 ∈ lw_tbl := List.mem_of_getElem? (i := 591) (by decide +kernel)
theorem inX6 : ∀ w ∈ u_ws RX6 TX6 22, w ∈ goodTs := by
  intro w h
  obtain ⟨k, hk, rfl⟩ := List.mem_map.mp h
  have hk := List.mem_range.mp hk
  rcases (show k = 0 ∨ k = 1 ∨ k = 2 ∨ k = 3 ∨ k = 4 ∨ k = 5 ∨ k = 6 ∨ k = 7 ∨ k = 8 ∨ k = 9 ∨ k = 10 ∨ k = 11 ∨ k = 12 ∨ k = 13 ∨ k = 14 ∨ k = 15 ∨ k = 16 ∨ k = 17 ∨ k = 18 ∨ k = 19 ∨ k = 20 ∨ k = 21 by omega) with rfl | rfl | rfl | rfl | rfl | rfl | rfl | rfl | rfl | rfl | rfl | rfl | rfl | rfl | rfl | rfl | rfl | rfl | rfl | rfl | rfl | rfl
  · exact goodTs_mem layX6_0 (by decide +kernel)
  · exact goodTs_mem layX6_1 (by decide +kernel)
  · exact goodTs_mem layX6_2 (by decide +kernel)
  · exact goodTs_mem layX6_3 (by decide +kernel)
  · exact goodTs_mem layX6_4 (by decide +kernel)
  · exact goodTs_mem layX6_5 (by decide +kernel)
  · exact goodTs_mem layX6_6 (by decide +kernel)
  · exact goodTs_mem layX6_7 (by decide +kernel)
  · exact goodTs_mem layX6_8 (by decide +kernel)
  · exact goodTs_mem layX6_9 (by decide +kernel)
  · exact goodTs_mem layX6_10 (by decide +kernel)
  · exact goodTs_mem layX6_11 (by decide +kernel)
  · exact goodTs_mem layX6_12 (by decide +kernel)
  · exact goodTs_mem layX6_13 (by decide +kernel)
  · exact goodTs_mem layX6_14 (by decide +kernel)
  · exact goodTs_mem layX6_15 (by decide +kernel)
  · exact goodTs_mem layX6_16 (by decide +kernel)
  · exact goodTs_mem layX6_17 (by decide +kernel)
  · exact goodTs_mem layX6_18 (by decide +kernel)
  · exact goodTs_mem layX6_19 (by decide +kernel)
  · exact goodTs_mem layX6_20 (by decide +kernel)
  · exact goodTs_mem layX6_21 (by decide +kernel)
abbrev vwCl : List vw_C := [(RX0, TX0, 4), (RX1, TX1, 7), (RX2, TX2, 14), (RX3, TX3, 5), (RX5, TX5, 5), (RX6, TX6, 22)]
abbrev cX5_init : ByteArray := prog_1_method_1_code
def yX5_init : MethodName := ⟨RX5, "<init>", "()V"⟩
abbrev cX2_init : ByteArray := prog_4_method_1_code
def yX2_init : MethodName := ⟨RX2, "<init>", "()V"⟩
abbrev cJ7_fill : ByteArray := prog_10_method_103_code
def yJ7_fill : MethodName := ⟨RJ7, "fill", "([II)V"⟩
abbrev cX0_init : ByteArray := prog_2_method_1_code
def yX0_init : MethodName := ⟨RX0, "<init>", "()V"⟩
abbrev cX1_init : ByteArray := prog_3_method_1_code
def yX1_init : MethodName := ⟨RX1, "<init>", "()V"⟩
abbrev cX3_init : ByteArray := prog_5_method_1_code
def yX3_init : MethodName := ⟨RX3, "<init>", "()V"⟩
abbrev cX5_add : ByteArray := prog_1_method_2_code
def yX5_add : MethodName := ⟨RX5, "add", "(IIJ)Z"⟩
abbrev cX5_isClient : ByteArray := prog_1_method_21_code
def yX5_isClient : MethodName := ⟨RX5, "isClient", "(I)Z"⟩
abbrev cX5_isFile : ByteArray := prog_1_method_22_code
def yX5_isFile : MethodName := ⟨RX5, "isFile", "(I)Z"⟩
abbrev cX5_copyOf : ByteArray := prog_1_method_25_code
def yX5_copyOf : MethodName := ⟨RX5, "copyOf", "(II)LRevisionStore$Copy;"⟩
abbrev cX0_hasEntry : ByteArray := prog_2_method_2_code
def yX0_hasEntry : MethodName := ⟨RX0, "hasEntry", "()Z"⟩
abbrev cX4_isClean : ByteArray := prog_6_method_3_code
def yX4_isClean : MethodName := ⟨RX4, "isClean", "(J)Z"⟩
abbrev cX4_isText : ByteArray := prog_6_method_2_code
def yX4_isText : MethodName := ⟨RX4, "isText", "(J)Z"⟩
abbrev cX4_hasMarks : ByteArray := prog_6_method_4_code
def yX4_hasMarks : MethodName := ⟨RX4, "hasMarks", "(J)Z"⟩
abbrev cX0_hold : ByteArray := prog_2_method_5_code
def yX0_hold : MethodName := ⟨RX0, "hold", "(IJ)V"⟩
abbrev cX5_edit : ByteArray := prog_1_method_3_code
def yX5_edit : MethodName := ⟨RX5, "edit", "(IIJ)Z"⟩
abbrev cX0_hasText : ByteArray := prog_2_method_4_code
def yX0_hasText : MethodName := ⟨RX0, "hasText", "()Z"⟩
abbrev cX5_remove : ByteArray := prog_1_method_4_code
def yX5_remove : MethodName := ⟨RX5, "remove", "(II)Z"⟩
abbrev cX0_hasRevision : ByteArray := prog_2_method_3_code
def yX0_hasRevision : MethodName := ⟨RX0, "hasRevision", "()Z"⟩
abbrev cX0_markGone : ByteArray := prog_2_method_6_code
def yX0_markGone : MethodName := ⟨RX0, "markGone", "()V"⟩
abbrev cX0_drop : ByteArray := prog_2_method_7_code
def yX0_drop : MethodName := ⟨RX0, "drop", "()V"⟩
abbrev cX5_commit : ByteArray := prog_1_method_5_code
def yX5_commit : MethodName := ⟨RX5, "commit", "(II)I"⟩
abbrev cX5_commitRefusal : ByteArray := prog_1_method_27_code
def yX5_commitRefusal : MethodName := ⟨RX5, "commitRefusal", "(LRevisionStore$Copy;LRevisionStore$History;)I"⟩
abbrev cX5_isStale : ByteArray := prog_1_method_28_code
def yX5_isStale : MethodName := ⟨RX5, "isStale", "(LRevisionStore$Copy;LRevisionStore$History;)Z"⟩
abbrev cX5_selectedBy : ByteArray := prog_1_method_26_code
def yX5_selectedBy : MethodName := ⟨RX5, "selectedBy", "(LRevisionStore$History;I)I"⟩
abbrev cX2_isThere : ByteArray := prog_4_method_2_code
def yX2_isThere : MethodName := ⟨RX2, "isThere", "()Z"⟩
abbrev cX2_tip : ByteArray := prog_4_method_5_code
def yX2_tip : MethodName := ⟨RX2, "tip", "(I)I"⟩
abbrev cX2_isAlive : ByteArray := prog_4_method_3_code
def yX2_isAlive : MethodName := ⟨RX2, "isAlive", "(I)Z"⟩
abbrev cX5_isModified : ByteArray := prog_1_method_29_code
def yX5_isModified : MethodName := ⟨RX5, "isModified", "(LRevisionStore$Copy;LRevisionStore$History;)Z"⟩
abbrev cX5_hasRoomToCommit : ByteArray := prog_1_method_30_code
def yX5_hasRoomToCommit : MethodName := ⟨RX5, "hasRoomToCommit", "(LRevisionStore$Copy;LRevisionStore$History;)Z"⟩
abbrev cX2_hasRoom : ByteArray := prog_4_method_4_code
def yX2_hasRoom : MethodName := ⟨RX2, "hasRoom", "(II)Z"⟩
abbrev cX5_commitGone : ByteArray := prog_1_method_31_code
def yX5_commitGone : MethodName := ⟨RX5, "commitGone", "(LRevisionStore$Copy;LRevisionStore$History;)I"⟩
abbrev cX5_branchToCommitOn : ByteArray := prog_1_method_33_code
def yX5_branchToCommitOn : MethodName := ⟨RX5, "branchToCommitOn", "(LRevisionStore$Copy;LRevisionStore$History;)I"⟩
abbrev cX2_append : ByteArray := prog_4_method_6_code
def yX2_append : MethodName := ⟨RX2, "append", "(IJZ)I"⟩
abbrev cX2_openBranch : ByteArray := prog_4_method_7_code
def yX2_openBranch : MethodName := ⟨RX2, "openBranch", "(I)I"⟩
abbrev cX2_freeMagic : ByteArray := prog_4_method_10_code
def yX2_freeMagic : MethodName := ⟨RX2, "freeMagic", "(I)I"⟩
abbrev cX2_openBranchWith : ByteArray := prog_4_method_9_code
def yX2_openBranchWith : MethodName := ⟨RX2, "openBranchWith", "(II)I"⟩
abbrev cX5_commitText : ByteArray := prog_1_method_32_code
def yX5_commitText : MethodName := ⟨RX5, "commitText", "(LRevisionStore$Copy;LRevisionStore$History;)I"⟩
abbrev cX5_update : ByteArray := prog_1_method_6_code
def yX5_update : MethodName := ⟨RX5, "update", "(III)I"⟩
abbrev cX5_isStickyWish : ByteArray := prog_1_method_34_code
def yX5_isStickyWish : MethodName := ⟨RX5, "isStickyWish", "(I)Z"⟩
abbrev cX5_isTag : ByteArray := prog_1_method_23_code
def yX5_isTag : MethodName := ⟨RX5, "isTag", "(I)Z"⟩
abbrev cX5_wishedTag : ByteArray := prog_1_method_35_code
def yX5_wishedTag : MethodName := ⟨RX5, "wishedTag", "(LRevisionStore$Copy;I)I"⟩
abbrev cX5_updateCopy : ByteArray := prog_1_method_36_code
def yX5_updateCopy : MethodName := ⟨RX5, "updateCopy", "(LRevisionStore$Copy;LRevisionStore$History;I)I"⟩
abbrev cX5_updateToNothing : ByteArray := prog_1_method_37_code
def yX5_updateToNothing : MethodName := ⟨RX5, "updateToNothing", "(LRevisionStore$Copy;LRevisionStore$History;)I"⟩
abbrev cX5_mergeInto : ByteArray := prog_1_method_38_code
def yX5_mergeInto : MethodName := ⟨RX5, "mergeInto", "(LRevisionStore$Copy;LRevisionStore$History;I)I"⟩
abbrev cX3_merge : ByteArray := prog_5_method_2_code
def yX3_merge : MethodName := ⟨RX3, "merge", "(JJJ)V"⟩
abbrev cX1_compare : ByteArray := prog_3_method_2_code
def yX1_compare : MethodName := ⟨RX1, "compare", "(JJ)V"⟩
abbrev cX4_spread : ByteArray := prog_6_method_6_code
def yX4_spread : MethodName := ⟨RX4, "spread", "(J[I)I"⟩
abbrev cX4_lineCount : ByteArray := prog_6_method_5_code
def yX4_lineCount : MethodName := ⟨RX4, "lineCount", "(J)I"⟩
abbrev cX1_measureRests : ByteArray := prog_3_method_4_code
def yX1_measureRests : MethodName := ⟨RX1, "measureRests", "()V"⟩
abbrev cX1_pairLines : ByteArray := prog_3_method_5_code
def yX1_pairLines : MethodName := ⟨RX1, "pairLines", "()V"⟩
abbrev cX3_mergePart : ByteArray := prog_5_method_4_code
def yX3_mergePart : MethodName := ⟨RX3, "mergePart", "(IIIIII)V"⟩
abbrev cX3_isSame : ByteArray := prog_5_method_5_code
def yX3_isSame : MethodName := ⟨RX3, "isSame", "([III[III)Z"⟩
abbrev cX3_takeAll : ByteArray := prog_5_method_6_code
def yX3_takeAll : MethodName := ⟨RX3, "takeAll", "([III)V"⟩
abbrev cX3_take : ByteArray := prog_5_method_7_code
def yX3_take : MethodName := ⟨RX3, "take", "(I)V"⟩
abbrev cX3_isTooLong : ByteArray := prog_5_method_3_code
def yX3_isTooLong : MethodName := ⟨RX3, "isTooLong", "()Z"⟩
abbrev cX5_tag : ByteArray := prog_1_method_7_code
def yX5_tag : MethodName := ⟨RX5, "tag", "(IIIZ)Z"⟩
abbrev cX5_bring : ByteArray := prog_1_method_8_code
def yX5_bring : MethodName := ⟨RX5, "bring", "(IJ)I"⟩
abbrev cX2_openVendorBranch : ByteArray := prog_4_method_8_code
def yX2_openVendorBranch : MethodName := ⟨RX2, "openVendorBranch", "()V"⟩
abbrev cX5_entry : ByteArray := prog_1_method_9_code
def yX5_entry : MethodName := ⟨RX5, "entry", "(II)I"⟩
abbrev cX5_removed : ByteArray := prog_1_method_10_code
def yX5_removed : MethodName := ⟨RX5, "removed", "(II)Z"⟩
abbrev cX5_local : ByteArray := prog_1_method_11_code
def yX5_local : MethodName := ⟨RX5, "local", "(II)J"⟩
abbrev cX5_selected : ByteArray := prog_1_method_12_code
def yX5_selected : MethodName := ⟨RX5, "selected", "(II)I"⟩
abbrev cX5_sticky : ByteArray := prog_1_method_13_code
def yX5_sticky : MethodName := ⟨RX5, "sticky", "(II)I"⟩
abbrev cX5_revisions : ByteArray := prog_1_method_14_code
def yX5_revisions : MethodName := ⟨RX5, "revisions", "(I)I"⟩
abbrev cX5_number : ByteArray := prog_1_method_15_code
def yX5_number : MethodName := ⟨RX5, "number", "(III)I"⟩
abbrev cX5_isRevision : ByteArray := prog_1_method_24_code
def yX5_isRevision : MethodName := ⟨RX5, "isRevision", "(II)Z"⟩
abbrev cX2_numberPart : ByteArray := prog_4_method_12_code
def yX2_numberPart : MethodName := ⟨RX2, "numberPart", "(II)I"⟩
abbrev cX2_depth : ByteArray := prog_4_method_11_code
def yX2_depth : MethodName := ⟨RX2, "depth", "(I)I"⟩
abbrev cX5_content : ByteArray := prog_1_method_16_code
def yX5_content : MethodName := ⟨RX5, "content", "(II)J"⟩
abbrev cX5_dead : ByteArray := prog_1_method_17_code
def yX5_dead : MethodName := ⟨RX5, "dead", "(II)Z"⟩
abbrev cX5_kept : ByteArray := prog_1_method_18_code
def yX5_kept : MethodName := ⟨RX5, "kept", "(II)I"⟩
abbrev cX2_keptAgainst : ByteArray := prog_4_method_13_code
def yX2_keptAgainst : MethodName := ⟨RX2, "keptAgainst", "(I)I"⟩
abbrev cX2_nextOnTrunk : ByteArray := prog_4_method_14_code
def yX2_nextOnTrunk : MethodName := ⟨RX2, "nextOnTrunk", "(I)I"⟩
abbrev cX1_size : ByteArray := prog_3_method_3_code
def yX1_size : MethodName := ⟨RX1, "size", "()I"⟩
abbrev cX5_named : ByteArray := prog_1_method_19_code
def yX5_named : MethodName := ⟨RX5, "named", "(II)I"⟩
abbrev cX5_standard : ByteArray := prog_1_method_20_code
def yX5_standard : MethodName := ⟨RX5, "standard", "(I)I"⟩
abbrev cX6_init : ByteArray := prog_8_method_1_code
def yX6_init : MethodName := ⟨RX6, "<init>", "()V"⟩
abbrev cX6_add : ByteArray := prog_8_method_23_code
def yX6_add : MethodName := ⟨RX6, "add", "(IIJ)Z"⟩
abbrev cX6_noPair : ByteArray := prog_8_method_3_code
def yX6_noPair : MethodName := ⟨RX6, "noPair", "(II)Z"⟩
abbrev cX6_below : ByteArray := prog_8_method_2_code
def yX6_below : MethodName := ⟨RX6, "below", "(II)Z"⟩
abbrev cX6_noText : ByteArray := prog_8_method_6_code
def yX6_noText : MethodName := ⟨RX6, "noText", "(J)Z"⟩
abbrev cX6_size : ByteArray := prog_8_method_4_code
def yX6_size : MethodName := ⟨RX6, "size", "(J)I"⟩
abbrev cX6_lineOf : ByteArray := prog_8_method_5_code
def yX6_lineOf : MethodName := ⟨RX6, "lineOf", "(JI)I"⟩
abbrev cX6_hasMarks : ByteArray := prog_8_method_7_code
def yX6_hasMarks : MethodName := ⟨RX6, "hasMarks", "(J)Z"⟩
abbrev cX6_edit : ByteArray := prog_8_method_25_code
def yX6_edit : MethodName := ⟨RX6, "edit", "(IIJ)Z"⟩
abbrev cX6_hasLocal : ByteArray := prog_8_method_24_code
def yX6_hasLocal : MethodName := ⟨RX6, "hasLocal", "(I)Z"⟩
abbrev cX6_remove : ByteArray := prog_8_method_26_code
def yX6_remove : MethodName := ⟨RX6, "remove", "(II)Z"⟩
abbrev cX6_commit : ByteArray := prog_8_method_29_code
def yX6_commit : MethodName := ⟨RX6, "commit", "(II)I"⟩
abbrev cX6_bars : ByteArray := prog_8_method_28_code
def yX6_bars : MethodName := ⟨RX6, "bars", "(II)I"⟩
abbrev cX6_selectedBy : ByteArray := prog_8_method_17_code
def yX6_selectedBy : MethodName := ⟨RX6, "selectedBy", "(II)I"⟩
abbrev cX6_last : ByteArray := prog_8_method_16_code
def yX6_last : MethodName := ⟨RX6, "last", "(II)I"⟩
abbrev cX6_noneOrDead : ByteArray := prog_8_method_18_code
def yX6_noneOrDead : MethodName := ⟨RX6, "noneOrDead", "(II)Z"⟩
abbrev cX6_modified : ByteArray := prog_8_method_27_code
def yX6_modified : MethodName := ⟨RX6, "modified", "(II)Z"⟩
abbrev cX6_revise : ByteArray := prog_8_method_19_code
def yX6_revise : MethodName := ⟨RX6, "revise", "(IIJZ)I"⟩
abbrev cX6_freeMagic : ByteArray := prog_8_method_21_code
def yX6_freeMagic : MethodName := ⟨RX6, "freeMagic", "(II)I"⟩
abbrev cX6_branchAt : ByteArray := prog_8_method_20_code
def yX6_branchAt : MethodName := ⟨RX6, "branchAt", "(III)I"⟩
abbrev cX6_update : ByteArray := prog_8_method_32_code
def yX6_update : MethodName := ⟨RX6, "update", "(III)I"⟩
abbrev cX6_updated : ByteArray := prog_8_method_31_code
def yX6_updated : MethodName := ⟨RX6, "updated", "(III)I"⟩
abbrev cX6_take : ByteArray := prog_8_method_30_code
def yX6_take : MethodName := ⟨RX6, "take", "(III)V"⟩
abbrev cX6_merge : ByteArray := prog_8_method_14_code
def yX6_merge : MethodName := ⟨RX6, "merge", "(JJJ)V"⟩
abbrev cX6_pairUp : ByteArray := prog_8_method_10_code
def yX6_pairUp : MethodName := ⟨RX6, "pairUp", "(JJZ)V"⟩
abbrev cX6_fill : ByteArray := prog_8_method_8_code
def yX6_fill : MethodName := ⟨RX6, "fill", "(JJ)V"⟩
abbrev cX6_alike : ByteArray := prog_8_method_11_code
def yX6_alike : MethodName := ⟨RX6, "alike", "(JIIJII)Z"⟩
abbrev cX6_putAll : ByteArray := prog_8_method_13_code
def yX6_putAll : MethodName := ⟨RX6, "putAll", "(JII)V"⟩
abbrev cX6_put : ByteArray := prog_8_method_12_code
def yX6_put : MethodName := ⟨RX6, "put", "(I)V"⟩
abbrev cX6_mergedText : ByteArray := prog_8_method_15_code
def yX6_mergedText : MethodName := ⟨RX6, "mergedText", "()J"⟩
abbrev cX6_tag : ByteArray := prog_8_method_33_code
def yX6_tag : MethodName := ⟨RX6, "tag", "(IIIZ)Z"⟩
abbrev cX6_bring : ByteArray := prog_8_method_34_code
def yX6_bring : MethodName := ⟨RX6, "bring", "(IJ)I"⟩
abbrev cX6_firstOfTrunk : ByteArray := prog_8_method_22_code
def yX6_firstOfTrunk : MethodName := ⟨RX6, "firstOfTrunk", "(I)I"⟩
abbrev cX6_entry : ByteArray := prog_8_method_35_code
def yX6_entry : MethodName := ⟨RX6, "entry", "(II)I"⟩
abbrev cX6_removed : ByteArray := prog_8_method_36_code
def yX6_removed : MethodName := ⟨RX6, "removed", "(II)Z"⟩
abbrev cX6_local : ByteArray := prog_8_method_37_code
def yX6_local : MethodName := ⟨RX6, "local", "(II)J"⟩
abbrev cX6_selected : ByteArray := prog_8_method_38_code
def yX6_selected : MethodName := ⟨RX6, "selected", "(II)I"⟩
abbrev cX6_sticky : ByteArray := prog_8_method_39_code
def yX6_sticky : MethodName := ⟨RX6, "sticky", "(II)I"⟩
abbrev cX6_revisions : ByteArray := prog_8_method_40_code
def yX6_revisions : MethodName := ⟨RX6, "revisions", "(I)I"⟩
abbrev cX6_number : ByteArray := prog_8_method_43_code
def yX6_number : MethodName := ⟨RX6, "number", "(III)I"⟩
abbrev cX6_noRevision : ByteArray := prog_8_method_41_code
def yX6_noRevision : MethodName := ⟨RX6, "noRevision", "(II)Z"⟩
abbrev cX6_parts : ByteArray := prog_8_method_42_code
def yX6_parts : MethodName := ⟨RX6, "parts", "(II)I"⟩
abbrev cX6_content : ByteArray := prog_8_method_44_code
def yX6_content : MethodName := ⟨RX6, "content", "(II)J"⟩
abbrev cX6_dead : ByteArray := prog_8_method_45_code
def yX6_dead : MethodName := ⟨RX6, "dead", "(II)Z"⟩
abbrev cX6_kept : ByteArray := prog_8_method_47_code
def yX6_kept : MethodName := ⟨RX6, "kept", "(II)I"⟩
abbrev cX6_revisionAt : ByteArray := prog_8_method_46_code
def yX6_revisionAt : MethodName := ⟨RX6, "revisionAt", "(III)I"⟩
abbrev cX6_difference : ByteArray := prog_8_method_9_code
def yX6_difference : MethodName := ⟨RX6, "difference", "(JJ)I"⟩
abbrev cX6_named : ByteArray := prog_8_method_48_code
def yX6_named : MethodName := ⟨RX6, "named", "(II)I"⟩
abbrev cX6_standard : ByteArray := prog_8_method_49_code
def yX6_standard : MethodName := ⟨RX6, "standard", "(I)I"⟩
/-! words, by their places -/
theorem gw_0 : Cond.selects RX5 yX5_copyOf yX5_copyOf ∈ goodTs := goodTs_mem (List.mem_of_getElem? (i := 0) (by decide +kernel)) (by decide +kernel)
theorem gw_1 : Cond.selects RX0 yX0_hasEntry yX0_hasEntry ∈ goodTs := goodTs_mem (List.mem_of_getElem? (i := 1) (by decide +kernel)) (by decide +kernel)
theorem gw_2 : Cond.selects RX0 yX0_hold yX0_hold ∈ goodTs := goodTs_mem (List.mem_of_getElem? (i := 2) (by decide +kernel)) (by decide +kernel)
theorem gw_3 : Cond.selects RX0 yX0_hasText yX0_hasText ∈ goodTs := goodTs_mem (List.mem_of_getElem? (i := 3) (by decide +kernel)) (by decide +kernel)
theorem gw_4 : Cond.selects RX0 yX0_hasRevision yX0_hasRevision ∈ goodTs := goodTs_mem (List.mem_of_getElem? (i := 4) (by decide +kernel)) (by decide +kernel)
theorem gw_5 : Cond.selects RX0 yX0_markGone yX0_markGone ∈ goodTs := goodTs_mem (List.mem_of_getElem? (i := 5) (by decide +kernel)) (by decide +kernel)
theorem gw_6 : Cond.selects RX0 yX0_drop yX0_drop ∈ goodTs := goodTs_mem (List.mem_of_getElem? (i := 6) (by decide +kernel)) (by decide +kernel)
theorem gw_7 : Cond.selects RX5 yX5_commitRefusal yX5_commitRefusal ∈ goodTs := goodTs_mem (List.mem_of_getElem? (i := 7) (by decide +kernel)) (by decide +kernel)
theorem gw_8 : Cond.selects RX5 yX5_isStale yX5_isStale ∈ goodTs := goodTs_mem (List.mem_of_getElem? (i := 8) (by decide +kernel)) (by decide +kernel)
theorem gw_9 : Cond.selects RX5 yX5_selectedBy yX5_selectedBy ∈ goodTs := goodTs_mem (List.mem_of_getElem? (i := 9) (by decide +kernel)) (by decide +kernel)
theorem gw_10 : Cond.selects RX2 yX2_isThere yX2_isThere ∈ goodTs := goodTs_mem (List.mem_of_getElem? (i := 10) (by decide +kernel)) (by decide +kernel)
theorem gw_11 : Cond.selects RX2 yX2_tip yX2_tip ∈ goodTs := goodTs_mem (List.mem_of_getElem? (i := 11) (by decide +kernel)) (by decide +kernel)
theorem gw_12 : Cond.selects RX2 yX2_isAlive yX2_isAlive ∈ goodTs := goodTs_mem (List.mem_of_getElem? (i := 12) (by decide +kernel)) (by decide +kernel)
theorem gw_13 : Cond.selects RX2 yX2_hasRoom yX2_hasRoom ∈ goodTs := goodTs_mem (List.mem_of_getElem? (i := 13) (by decide +kernel)) (by decide +kernel)
theorem gw_14 : Cond.selects RX2 yX2_append yX2_append ∈ goodTs := goodTs_mem (List.mem_of_getElem? (i := 14) (by decide +kernel)) (by decide +kernel)
theorem gw_15 : Cond.selects RX2 yX2_openBranch yX2_openBranch ∈ goodTs := goodTs_mem (List.mem_of_getElem? (i := 15) (by decide +kernel)) (by decide +kernel)
theorem gw_16 : Cond.selects RX2 yX2_freeMagic yX2_freeMagic ∈ goodTs := goodTs_mem (List.mem_of_getElem? (i := 16) (by decide +kernel)) (by decide +kernel)
theorem gw_17 : Cond.selects RX2 yX2_openBranchWith yX2_openBranchWith ∈ goodTs := goodTs_mem (List.mem_of_getElem? (i := 17) (by decide +kernel)) (by decide +kernel)
theorem gw_18 : Cond.selects RX5 yX5_isStickyWish yX5_isStickyWish ∈ goodTs := goodTs_mem (List.mem_of_getElem? (i := 18) (by decide +kernel)) (by decide +kernel)
theorem gw_19 : Cond.selects RX5 yX5_updateCopy yX5_updateCopy ∈ goodTs := goodTs_mem (List.mem_of_getElem? (i := 19) (by decide +kernel)) (by decide +kernel)
theorem gw_20 : Cond.selects RX5 yX5_mergeInto yX5_mergeInto ∈ goodTs := goodTs_mem (List.mem_of_getElem? (i := 20) (by decide +kernel)) (by decide +kernel)
theorem gw_21 : Cond.selects RX3 yX3_merge yX3_merge ∈ goodTs := goodTs_mem (List.mem_of_getElem? (i := 21) (by decide +kernel)) (by decide +kernel)
theorem gw_22 : Cond.selects RX1 yX1_compare yX1_compare ∈ goodTs := goodTs_mem (List.mem_of_getElem? (i := 22) (by decide +kernel)) (by decide +kernel)
theorem gw_23 : Cond.selects RX1 yX1_measureRests yX1_measureRests ∈ goodTs := goodTs_mem (List.mem_of_getElem? (i := 23) (by decide +kernel)) (by decide +kernel)
theorem gw_24 : Cond.selects RX1 yX1_pairLines yX1_pairLines ∈ goodTs := goodTs_mem (List.mem_of_getElem? (i := 24) (by decide +kernel)) (by decide +kernel)
theorem gw_25 : Cond.selects RX3 yX3_mergePart yX3_mergePart ∈ goodTs := goodTs_mem (List.mem_of_getElem? (i := 25) (by decide +kernel)) (by decide +kernel)
theorem gw_26 : Cond.selects RX3 yX3_takeAll yX3_takeAll ∈ goodTs := goodTs_mem (List.mem_of_getElem? (i := 26) (by decide +kernel)) (by decide +kernel)
theorem gw_27 : Cond.selects RX3 yX3_take yX3_take ∈ goodTs := goodTs_mem (List.mem_of_getElem? (i := 27) (by decide +kernel)) (by decide +kernel)
theorem gw_28 : Cond.selects RX3 yX3_isTooLong yX3_isTooLong ∈ goodTs := goodTs_mem (List.mem_of_getElem? (i := 28) (by decide +kernel)) (by decide +kernel)
theorem gw_29 : Cond.selects RX2 yX2_openVendorBranch yX2_openVendorBranch ∈ goodTs := goodTs_mem (List.mem_of_getElem? (i := 29) (by decide +kernel)) (by decide +kernel)
theorem gw_30 : Cond.selects RX5 yX5_isRevision yX5_isRevision ∈ goodTs := goodTs_mem (List.mem_of_getElem? (i := 30) (by decide +kernel)) (by decide +kernel)
theorem gw_31 : Cond.selects RX2 yX2_numberPart yX2_numberPart ∈ goodTs := goodTs_mem (List.mem_of_getElem? (i := 31) (by decide +kernel)) (by decide +kernel)
theorem gw_32 : Cond.selects RX2 yX2_depth yX2_depth ∈ goodTs := goodTs_mem (List.mem_of_getElem? (i := 32) (by decide +kernel)) (by decide +kernel)
theorem gw_33 : Cond.selects RX2 yX2_keptAgainst yX2_keptAgainst ∈ goodTs := goodTs_mem (List.mem_of_getElem? (i := 33) (by decide +kernel)) (by decide +kernel)
theorem gw_34 : Cond.selects RX2 yX2_nextOnTrunk yX2_nextOnTrunk ∈ goodTs := goodTs_mem (List.mem_of_getElem? (i := 34) (by decide +kernel)) (by decide +kernel)
theorem gw_35 : Cond.selects RX1 yX1_size yX1_size ∈ goodTs := goodTs_mem (List.mem_of_getElem? (i := 35) (by decide +kernel)) (by decide +kernel)
theorem gw_36 : Cond.selects RX6 yX6_hasLocal yX6_hasLocal ∈ goodTs := goodTs_mem (List.mem_of_getElem? (i := 36) (by decide +kernel)) (by decide +kernel)
theorem gw_37 : Cond.selects RX6 yX6_bars yX6_bars ∈ goodTs := goodTs_mem (List.mem_of_getElem? (i := 37) (by decide +kernel)) (by decide +kernel)
theorem gw_38 : Cond.selects RX6 yX6_selectedBy yX6_selectedBy ∈ goodTs := goodTs_mem (List.mem_of_getElem? (i := 38) (by decide +kernel)) (by decide +kernel)
theorem gw_39 : Cond.selects RX6 yX6_last yX6_last ∈ goodTs := goodTs_mem (List.mem_of_getElem? (i := 39) (by decide +kernel)) (by decide +kernel)
theorem gw_40 : Cond.selects RX6 yX6_noneOrDead yX6_noneOrDead ∈ goodTs := goodTs_mem (List.mem_of_getElem? (i := 40) (by decide +kernel)) (by decide +kernel)
theorem gw_41 : Cond.selects RX6 yX6_modified yX6_modified ∈ goodTs := goodTs_mem (List.mem_of_getElem? (i := 41) (by decide +kernel)) (by decide +kernel)
theorem gw_42 : Cond.selects RX6 yX6_revise yX6_revise ∈ goodTs := goodTs_mem (List.mem_of_getElem? (i := 42) (by decide +kernel)) (by decide +kernel)
theorem gw_43 : Cond.selects RX6 yX6_freeMagic yX6_freeMagic ∈ goodTs := goodTs_mem (List.mem_of_getElem? (i := 43) (by decide +kernel)) (by decide +kernel)
theorem gw_44 : Cond.selects RX6 yX6_branchAt yX6_branchAt ∈ goodTs := goodTs_mem (List.mem_of_getElem? (i := 44) (by decide +kernel)) (by decide +kernel)
theorem gw_45 : Cond.selects RX6 yX6_updated yX6_updated ∈ goodTs := goodTs_mem (List.mem_of_getElem? (i := 45) (by decide +kernel)) (by decide +kernel)
theorem gw_46 : Cond.selects RX6 yX6_take yX6_take ∈ goodTs := goodTs_mem (List.mem_of_getElem? (i := 46) (by decide +kernel)) (by decide +kernel)
theorem gw_47 : Cond.selects RX6 yX6_merge yX6_merge ∈ goodTs := goodTs_mem (List.mem_of_getElem? (i := 47) (by decide +kernel)) (by decide +kernel)
theorem gw_48 : Cond.selects RX6 yX6_pairUp yX6_pairUp ∈ goodTs := goodTs_mem (List.mem_of_getElem? (i := 48) (by decide +kernel)) (by decide +kernel)
theorem gw_49 : Cond.selects RX6 yX6_fill yX6_fill ∈ goodTs := goodTs_mem (List.mem_of_getElem? (i := 49) (by decide +kernel)) (by decide +kernel)
theorem gw_50 : Cond.selects RX6 yX6_putAll yX6_putAll ∈ goodTs := goodTs_mem (List.mem_of_getElem? (i := 50) (by decide +kernel)) (by decide +kernel)
theorem gw_51 : Cond.selects RX6 yX6_put yX6_put ∈ goodTs := goodTs_mem (List.mem_of_getElem? (i := 51) (by decide +kernel)) (by decide +kernel)
theorem gw_52 : Cond.selects RX6 yX6_mergedText yX6_mergedText ∈ goodTs := goodTs_mem (List.mem_of_getElem? (i := 52) (by decide +kernel)) (by decide +kernel)
theorem gw_53 : Cond.selects RX6 yX6_firstOfTrunk yX6_firstOfTrunk ∈ goodTs := goodTs_mem (List.mem_of_getElem? (i := 53) (by decide +kernel)) (by decide +kernel)
theorem gw_54 : Cond.selects RX6 yX6_noRevision yX6_noRevision ∈ goodTs := goodTs_mem (List.mem_of_getElem? (i := 54) (by decide +kernel)) (by decide +kernel)
theorem gw_55 : Cond.selects RX6 yX6_parts yX6_parts ∈ goodTs := goodTs_mem (List.mem_of_getElem? (i := 55) (by decide +kernel)) (by decide +kernel)
theorem gw_56 : Cond.selects RX6 yX6_revisionAt yX6_revisionAt ∈ goodTs := goodTs_mem (List.mem_of_getElem? (i := 56) (by decide +kernel)) (by decide +kernel)
theorem gw_57 : Cond.selects RX6 yX6_difference yX6_difference ∈ goodTs := goodTs_mem (List.mem_of_getElem? (i := 57) (by decide +kernel)) (by decide +kernel)
theorem gw_59 : Cond.initialized RX5 ∈ goodTs := goodTs_mem (List.mem_of_getElem? (i := 59) (by decide +kernel)) (by decide +kernel)
theorem gw_60 : Cond.initialized RX2 ∈ goodTs := goodTs_mem (List.mem_of_getElem? (i := 60) (by decide +kernel)) (by decide +kernel)
theorem gw_61 : Cond.initialized RJ7 ∈ goodTs := goodTs_mem (List.mem_of_getElem? (i := 61) (by decide +kernel)) (by decide +kernel)
theorem gw_62 : Cond.initialized RX0 ∈ goodTs := goodTs_mem (List.mem_of_getElem? (i := 62) (by decide +kernel)) (by decide +kernel)
theorem gw_63 : Cond.initialized RX1 ∈ goodTs := goodTs_mem (List.mem_of_getElem? (i := 63) (by decide +kernel)) (by decide +kernel)
theorem gw_64 : Cond.initialized RX3 ∈ goodTs := goodTs_mem (List.mem_of_getElem? (i := 64) (by decide +kernel)) (by decide +kernel)
theorem gw_65 : Cond.initialized RX6 ∈ goodTs := goodTs_mem (List.mem_of_getElem? (i := 65) (by decide +kernel)) (by decide +kernel)
theorem gw_66 : Cond.initialized RX4 ∈ goodTs := goodTs_mem (List.mem_of_getElem? (i := 66) (by decide +kernel)) (by decide +kernel)
theorem gw_67 : Cond.initialized "java/lang/Math" ∈ goodTs := goodTs_mem (List.mem_of_getElem? (i := 67) (by decide +kernel)) (by decide +kernel)
theorem gw_84 : Cond.static yJ7_fill ∈ goodTs := goodTs_mem (List.mem_of_getElem? (i := 84) (by decide +kernel)) (by decide +kernel)
theorem gw_85 : Cond.code yJ7_fill cJ7_fill 4 (none) ∈ goodTs := goodTs_mem (List.mem_of_getElem? (i := 85) (by decide +kernel)) (by decide +kernel)
theorem gw_86 : Cond.fieldLink RX2 9 RX2 "texts" "[J" ∈ goodTs := goodTs_mem (List.mem_of_getElem? (i := 86) (by decide +kernel)) (by decide +kernel)
theorem gw_87 : Cond.fieldLinkNest RX5 163 RX2 "texts" "[J" RX5 ∈ lw_tbl := List.mem_of_getElem? (i := 87) (by decide +kernel)
theorem gw_88 : Cond.fieldLink RX2 15 RX2 "deaths" "[Z" ∈ goodTs := goodTs_mem (List.mem_of_getElem? (i := 88) (by decide +kernel)) (by decide +kernel)
theorem gw_89 : Cond.fieldLinkNest RX5 167 RX2 "deaths" "[Z" RX5 ∈ lw_tbl := List.mem_of_getElem? (i := 89) (by decide +kernel)
theorem gw_90 : Cond.fieldLink RX2 19 RX2 "homes" "[I" ∈ goodTs := goodTs_mem (List.mem_of_getElem? (i := 90) (by decide +kernel)) (by decide +kernel)
theorem gw_91 : Cond.fieldLink RX2 23 RX2 "ranks" "[I" ∈ goodTs := goodTs_mem (List.mem_of_getElem? (i := 91) (by decide +kernel)) (by decide +kernel)
theorem gw_92 : Cond.fieldLink RX2 26 RX2 "befores" "[I" ∈ goodTs := goodTs_mem (List.mem_of_getElem? (i := 92) (by decide +kernel)) (by decide +kernel)
theorem gw_93 : Cond.fieldLink RX2 29 RX2 "count" "I" ∈ goodTs := goodTs_mem (List.mem_of_getElem? (i := 93) (by decide +kernel)) (by decide +kernel)
theorem gw_94 : Cond.fieldLinkNest RX5 153 RX2 "count" "I" RX5 ∈ lw_tbl := List.mem_of_getElem? (i := 94) (by decide +kernel)
theorem gw_95 : Cond.fieldLink RX2 33 RX2 "points" "[I" ∈ goodTs := goodTs_mem (List.mem_of_getElem? (i := 95) (by decide +kernel)) (by decide +kernel)
theorem gw_96 : Cond.fieldLink RX2 36 RX2 "magics" "[I" ∈ goodTs := goodTs_mem (List.mem_of_getElem? (i := 96) (by decide +kernel)) (by decide +kernel)
theorem gw_97 : Cond.fieldLink RX2 39 RX2 "lengths" "[I" ∈ goodTs := goodTs_mem (List.mem_of_getElem? (i := 97) (by decide +kernel)) (by decide +kernel)
theorem gw_98 : Cond.fieldLink RX2 42 RX2 "tips" "[I" ∈ goodTs := goodTs_mem (List.mem_of_getElem? (i := 98) (by decide +kernel)) (by decide +kernel)
theorem gw_99 : Cond.fieldLink RX2 45 RX2 "branchCount" "I" ∈ goodTs := goodTs_mem (List.mem_of_getElem? (i := 99) (by decide +kernel)) (by decide +kernel)
theorem gw_100 : Cond.fieldLink RX2 48 RX2 "vendor" "I" ∈ goodTs := goodTs_mem (List.mem_of_getElem? (i := 100) (by decide +kernel)) (by decide +kernel)
theorem gw_101 : Cond.fieldLinkNest RX5 138 RX2 "vendor" "I" RX5 ∈ lw_tbl := List.mem_of_getElem? (i := 101) (by decide +kernel)
theorem gw_103 : Cond.fieldLinkNest RX5 148 RX2 "defaultBranch" "I" RX5 ∈ lw_tbl := List.mem_of_getElem? (i := 103) (by decide +kernel)
theorem gw_105 : Cond.fieldLinkNest RX5 121 RX2 "names" "[I" RX5 ∈ lw_tbl := List.mem_of_getElem? (i := 105) (by decide +kernel)
theorem gw_145 : Cond.fieldLink RX0 9 RX0 "base" "I" ∈ goodTs := goodTs_mem (List.mem_of_getElem? (i := 145) (by decide +kernel)) (by decide +kernel)
theorem gw_146 : Cond.fieldLinkNest RX5 128 RX0 "base" "I" RX5 ∈ lw_tbl := List.mem_of_getElem? (i := 146) (by decide +kernel)
theorem gw_147 : Cond.fieldLink RX0 15 RX0 "gone" "Z" ∈ goodTs := goodTs_mem (List.mem_of_getElem? (i := 147) (by decide +kernel)) (by decide +kernel)
theorem gw_148 : Cond.fieldLinkNest RX5 89 RX0 "gone" "Z" RX5 ∈ lw_tbl := List.mem_of_getElem? (i := 148) (by decide +kernel)
theorem gw_149 : Cond.fieldLink RX0 21 RX0 "text" "J" ∈ goodTs := goodTs_mem (List.mem_of_getElem? (i := 149) (by decide +kernel)) (by decide +kernel)
theorem gw_150 : Cond.fieldLinkNest RX5 72 RX0 "text" "J" RX5 ∈ lw_tbl := List.mem_of_getElem? (i := 150) (by decide +kernel)
theorem gw_152 : Cond.fieldLinkNest RX5 114 RX0 "stickyTag" "I" RX5 ∈ lw_tbl := List.mem_of_getElem? (i := 152) (by decide +kernel)
theorem gw_170 : Cond.fieldLink RX1 9 RX1 "first" "[I" ∈ goodTs := goodTs_mem (List.mem_of_getElem? (i := 170) (by decide +kernel)) (by decide +kernel)
theorem gw_171 : Cond.fieldLinkNest RX3 50 RX1 "first" "[I" RX5 ∈ lw_tbl := List.mem_of_getElem? (i := 171) (by decide +kernel)
theorem gw_172 : Cond.fieldLink RX1 15 RX1 "second" "[I" ∈ goodTs := goodTs_mem (List.mem_of_getElem? (i := 172) (by decide +kernel)) (by decide +kernel)
theorem gw_173 : Cond.fieldLinkNest RX3 60 RX1 "second" "[I" RX5 ∈ lw_tbl := List.mem_of_getElem? (i := 173) (by decide +kernel)
theorem gw_174 : Cond.fieldLink RX1 18 RX1 "firstCount" "I" ∈ goodTs := goodTs_mem (List.mem_of_getElem? (i := 174) (by decide +kernel)) (by decide +kernel)
theorem gw_175 : Cond.fieldLinkNest RX3 39 RX1 "firstCount" "I" RX5 ∈ lw_tbl := List.mem_of_getElem? (i := 175) (by decide +kernel)
theorem gw_176 : Cond.fieldLink RX1 22 RX1 "secondCount" "I" ∈ goodTs := goodTs_mem (List.mem_of_getElem? (i := 176) (by decide +kernel)) (by decide +kernel)
theorem gw_177 : Cond.fieldLinkNest RX3 57 RX1 "secondCount" "I" RX5 ∈ lw_tbl := List.mem_of_getElem? (i := 177) (by decide +kernel)
theorem gw_178 : Cond.fieldLink RX1 27 RX1 "common" "[[I" ∈ goodTs := goodTs_mem (List.mem_of_getElem? (i := 178) (by decide +kernel)) (by decide +kernel)
theorem gw_179 : Cond.fieldLink RX1 30 RX1 "partners" "[I" ∈ goodTs := goodTs_mem (List.mem_of_getElem? (i := 179) (by decide +kernel)) (by decide +kernel)
theorem gw_180 : Cond.fieldLinkNest RX3 42 RX1 "partners" "[I" RX5 ∈ lw_tbl := List.mem_of_getElem? (i := 180) (by decide +kernel)
theorem gw_181 : Cond.fieldLink RX1 33 RX1 "pairCount" "I" ∈ goodTs := goodTs_mem (List.mem_of_getElem? (i := 181) (by decide +kernel)) (by decide +kernel)
theorem gw_205 : Cond.fieldLink RX3 12 RX3 "mine" "LRevisionStore$Difference;" ∈ goodTs := goodTs_mem (List.mem_of_getElem? (i := 205) (by decide +kernel)) (by decide +kernel)
theorem gw_206 : Cond.fieldLink RX3 18 RX3 "theirs" "LRevisionStore$Difference;" ∈ goodTs := goodTs_mem (List.mem_of_getElem? (i := 206) (by decide +kernel)) (by decide +kernel)
theorem gw_207 : Cond.fieldLink RX3 23 RX3 "text" "J" ∈ goodTs := goodTs_mem (List.mem_of_getElem? (i := 207) (by decide +kernel)) (by decide +kernel)
theorem gw_208 : Cond.fieldLinkNest RX5 221 RX3 "text" "J" RX5 ∈ lw_tbl := List.mem_of_getElem? (i := 208) (by decide +kernel)
theorem gw_209 : Cond.fieldLink RX3 27 RX3 "lineCount" "I" ∈ goodTs := goodTs_mem (List.mem_of_getElem? (i := 209) (by decide +kernel)) (by decide +kernel)
theorem gw_210 : Cond.fieldLink RX3 31 RX3 "overlap" "Z" ∈ goodTs := goodTs_mem (List.mem_of_getElem? (i := 210) (by decide +kernel)) (by decide +kernel)
theorem gw_211 : Cond.fieldLinkNest RX5 222 RX3 "overlap" "Z" RX5 ∈ lw_tbl := List.mem_of_getElem? (i := 211) (by decide +kernel)
theorem gw_223 : Cond.fieldLink RX5 11 RX5 "histories" "[LRevisionStore$History;" ∈ goodTs := goodTs_mem (List.mem_of_getElem? (i := 223) (by decide +kernel)) (by decide +kernel)
theorem gw_224 : Cond.fieldLink RX5 18 RX5 "copies" "[LRevisionStore$Copy;" ∈ goodTs := goodTs_mem (List.mem_of_getElem? (i := 224) (by decide +kernel)) (by decide +kernel)
theorem gw_225 : Cond.fieldLink RX5 23 RX5 "tagSorts" "[I" ∈ goodTs := goodTs_mem (List.mem_of_getElem? (i := 225) (by decide +kernel)) (by decide +kernel)
theorem gw_226 : Cond.fieldLink RX5 30 RX5 "difference" "LRevisionStore$Difference;" ∈ goodTs := goodTs_mem (List.mem_of_getElem? (i := 226) (by decide +kernel)) (by decide +kernel)
theorem gw_227 : Cond.fieldLink RX5 37 RX5 "merger" "LRevisionStore$Merger;" ∈ goodTs := goodTs_mem (List.mem_of_getElem? (i := 227) (by decide +kernel)) (by decide +kernel)
theorem gw_239 : Cond.methodLink RL 15 yX5_add ∈ goodTs := goodTs_mem (List.mem_of_getElem? (i := 239) (by decide +kernel)) (by decide +kernel)
theorem gw_240 : Cond.instanceMethod yX5_add ∈ goodTs := goodTs_mem (List.mem_of_getElem? (i := 240) (by decide +kernel)) (by decide +kernel)
theorem gw_241 : Cond.selects RX5 yX5_add yX5_add ∈ goodTs := goodTs_mem (List.mem_of_getElem? (i := 241) (by decide +kernel)) (by decide +kernel)
theorem gw_242 : Cond.code yX5_add cX5_add 6 (some .boolean) ∈ goodTs := goodTs_mem (List.mem_of_getElem? (i := 242) (by decide +kernel)) (by decide +kernel)
theorem gw_243 : Cond.methodLink RX5 41 yX5_isClient ∈ goodTs := goodTs_mem (List.mem_of_getElem? (i := 243) (by decide +kernel)) (by decide +kernel)
theorem gw_244 : Cond.static yX5_isClient ∈ goodTs := goodTs_mem (List.mem_of_getElem? (i := 244) (by decide +kernel)) (by decide +kernel)
theorem gw_245 : Cond.code yX5_isClient cX5_isClient 1 (some .boolean) ∈ goodTs := goodTs_mem (List.mem_of_getElem? (i := 245) (by decide +kernel)) (by decide +kernel)
theorem gw_246 : Cond.methodLink RX5 45 yX5_isFile ∈ goodTs := goodTs_mem (List.mem_of_getElem? (i := 246) (by decide +kernel)) (by decide +kernel)
theorem gw_247 : Cond.static yX5_isFile ∈ goodTs := goodTs_mem (List.mem_of_getElem? (i := 247) (by decide +kernel)) (by decide +kernel)
theorem gw_248 : Cond.code yX5_isFile cX5_isFile 1 (some .boolean) ∈ goodTs := goodTs_mem (List.mem_of_getElem? (i := 248) (by decide +kernel)) (by decide +kernel)
theorem gw_249 : Cond.methodLink RX5 48 yX5_copyOf ∈ goodTs := goodTs_mem (List.mem_of_getElem? (i := 249) (by decide +kernel)) (by decide +kernel)
theorem gw_251 : Cond.instanceMethod yX5_copyOf ∈ goodTs := goodTs_mem (List.mem_of_getElem? (i := 251) (by decide +kernel)) (by decide +kernel)
theorem gw_252 : Cond.code yX5_copyOf cX5_copyOf 3 (some (.object "RevisionStore$Copy")) ∈ goodTs := goodTs_mem (List.mem_of_getElem? (i := 252) (by decide +kernel)) (by decide +kernel)
theorem gw_253 : Cond.methodLinkNest RX5 52 yX0_hasEntry RX5 ∈ lw_tbl := List.mem_of_getElem? (i := 253) (by decide +kernel)
theorem gw_255 : Cond.instanceMethod yX0_hasEntry ∈ goodTs := goodTs_mem (List.mem_of_getElem? (i := 255) (by decide +kernel)) (by decide +kernel)
theorem gw_256 : Cond.code yX0_hasEntry cX0_hasEntry 1 (some .boolean) ∈ goodTs := goodTs_mem (List.mem_of_getElem? (i := 256) (by decide +kernel)) (by decide +kernel)
theorem gw_257 : Cond.methodLinkNest RX5 56 yX4_isClean RX5 ∈ lw_tbl := List.mem_of_getElem? (i := 257) (by decide +kernel)
theorem gw_258 : Cond.static yX4_isClean ∈ goodTs := goodTs_mem (List.mem_of_getElem? (i := 258) (by decide +kernel)) (by decide +kernel)
theorem gw_259 : Cond.code yX4_isClean cX4_isClean 2 (some .boolean) ∈ goodTs := goodTs_mem (List.mem_of_getElem? (i := 259) (by decide +kernel)) (by decide +kernel)
theorem gw_260 : Cond.methodLink RX4 15 yX4_isText ∈ goodTs := goodTs_mem (List.mem_of_getElem? (i := 260) (by decide +kernel)) (by decide +kernel)
theorem gw_261 : Cond.static yX4_isText ∈ goodTs := goodTs_mem (List.mem_of_getElem? (i := 261) (by decide +kernel)) (by decide +kernel)
theorem gw_262 : Cond.code yX4_isText cX4_isText 7 (some .boolean) ∈ goodTs := goodTs_mem (List.mem_of_getElem? (i := 262) (by decide +kernel)) (by decide +kernel)
theorem gw_263 : Cond.constantLong RX4 11 (fL 32) ∈ goodTs := goodTs_mem (List.mem_of_getElem? (i := 263) (by decide +kernel)) (by decide +kernel)
theorem gw_264 : Cond.constantLong RX4 13 (fL 19) ∈ goodTs := goodTs_mem (List.mem_of_getElem? (i := 264) (by decide +kernel)) (by decide +kernel)
theorem gw_265 : Cond.methodLink RX4 19 yX4_hasMarks ∈ goodTs := goodTs_mem (List.mem_of_getElem? (i := 265) (by decide +kernel)) (by decide +kernel)
theorem gw_266 : Cond.static yX4_hasMarks ∈ goodTs := goodTs_mem (List.mem_of_getElem? (i := 266) (by decide +kernel)) (by decide +kernel)
theorem gw_267 : Cond.code yX4_hasMarks cX4_hasMarks 5 (some .boolean) ∈ goodTs := goodTs_mem (List.mem_of_getElem? (i := 267) (by decide +kernel)) (by decide +kernel)
theorem gw_268 : Cond.constantLong RX4 22 (fL 17) ∈ goodTs := goodTs_mem (List.mem_of_getElem? (i := 268) (by decide +kernel)) (by decide +kernel)
theorem gw_269 : Cond.methodLinkNest RX5 62 yX0_hold RX5 ∈ lw_tbl := List.mem_of_getElem? (i := 269) (by decide +kernel)
theorem gw_271 : Cond.instanceMethod yX0_hold ∈ goodTs := goodTs_mem (List.mem_of_getElem? (i := 271) (by decide +kernel)) (by decide +kernel)
theorem gw_272 : Cond.code yX0_hold cX0_hold 4 (none) ∈ goodTs := goodTs_mem (List.mem_of_getElem? (i := 272) (by decide +kernel)) (by decide +kernel)
theorem gw_273 : Cond.methodLink RL 20 yX5_edit ∈ goodTs := goodTs_mem (List.mem_of_getElem? (i := 273) (by decide +kernel)) (by decide +kernel)
theorem gw_274 : Cond.instanceMethod yX5_edit ∈ goodTs := goodTs_mem (List.mem_of_getElem? (i := 274) (by decide +kernel)) (by decide +kernel)
theorem gw_275 : Cond.selects RX5 yX5_edit yX5_edit ∈ goodTs := goodTs_mem (List.mem_of_getElem? (i := 275) (by decide +kernel)) (by decide +kernel)
theorem gw_276 : Cond.code yX5_edit cX5_edit 6 (some .boolean) ∈ goodTs := goodTs_mem (List.mem_of_getElem? (i := 276) (by decide +kernel)) (by decide +kernel)
theorem gw_277 : Cond.methodLinkNest RX5 66 yX0_hasText RX5 ∈ lw_tbl := List.mem_of_getElem? (i := 277) (by decide +kernel)
theorem gw_279 : Cond.instanceMethod yX0_hasText ∈ goodTs := goodTs_mem (List.mem_of_getElem? (i := 279) (by decide +kernel)) (by decide +kernel)
theorem gw_280 : Cond.code yX0_hasText cX0_hasText 1 (some .boolean) ∈ goodTs := goodTs_mem (List.mem_of_getElem? (i := 280) (by decide +kernel)) (by decide +kernel)
theorem gw_281 : Cond.methodLink RX0 28 yX0_hasEntry ∈ goodTs := goodTs_mem (List.mem_of_getElem? (i := 281) (by decide +kernel)) (by decide +kernel)
theorem gw_282 : Cond.methodLinkNest RX5 69 yX4_isText RX5 ∈ lw_tbl := List.mem_of_getElem? (i := 282) (by decide +kernel)
theorem gw_283 : Cond.methodLink RL 24 yX5_remove ∈ goodTs := goodTs_mem (List.mem_of_getElem? (i := 283) (by decide +kernel)) (by decide +kernel)
theorem gw_284 : Cond.instanceMethod yX5_remove ∈ goodTs := goodTs_mem (List.mem_of_getElem? (i := 284) (by decide +kernel)) (by decide +kernel)
theorem gw_285 : Cond.selects RX5 yX5_remove yX5_remove ∈ goodTs := goodTs_mem (List.mem_of_getElem? (i := 285) (by decide +kernel)) (by decide +kernel)
theorem gw_286 : Cond.code yX5_remove cX5_remove 4 (some .boolean) ∈ goodTs := goodTs_mem (List.mem_of_getElem? (i := 286) (by decide +kernel)) (by decide +kernel)
theorem gw_287 : Cond.methodLinkNest RX5 76 yX0_hasRevision RX5 ∈ lw_tbl := List.mem_of_getElem? (i := 287) (by decide +kernel)
theorem gw_289 : Cond.instanceMethod yX0_hasRevision ∈ goodTs := goodTs_mem (List.mem_of_getElem? (i := 289) (by decide +kernel)) (by decide +kernel)
theorem gw_290 : Cond.code yX0_hasRevision cX0_hasRevision 1 (some .boolean) ∈ goodTs := goodTs_mem (List.mem_of_getElem? (i := 290) (by decide +kernel)) (by decide +kernel)
theorem gw_291 : Cond.methodLinkNest RX5 79 yX0_markGone RX5 ∈ lw_tbl := List.mem_of_getElem? (i := 291) (by decide +kernel)
theorem gw_293 : Cond.instanceMethod yX0_markGone ∈ goodTs := goodTs_mem (List.mem_of_getElem? (i := 293) (by decide +kernel)) (by decide +kernel)
theorem gw_294 : Cond.code yX0_markGone cX0_markGone 1 (none) ∈ goodTs := goodTs_mem (List.mem_of_getElem? (i := 294) (by decide +kernel)) (by decide +kernel)
theorem gw_295 : Cond.methodLinkNest RX5 82 yX0_drop RX5 ∈ lw_tbl := List.mem_of_getElem? (i := 295) (by decide +kernel)
theorem gw_297 : Cond.instanceMethod yX0_drop ∈ goodTs := goodTs_mem (List.mem_of_getElem? (i := 297) (by decide +kernel)) (by decide +kernel)
theorem gw_298 : Cond.code yX0_drop cX0_drop 1 (none) ∈ goodTs := goodTs_mem (List.mem_of_getElem? (i := 298) (by decide +kernel)) (by decide +kernel)
theorem gw_299 : Cond.methodLink RL 29 yX5_commit ∈ goodTs := goodTs_mem (List.mem_of_getElem? (i := 299) (by decide +kernel)) (by decide +kernel)
theorem gw_300 : Cond.instanceMethod yX5_commit ∈ goodTs := goodTs_mem (List.mem_of_getElem? (i := 300) (by decide +kernel)) (by decide +kernel)
theorem gw_301 : Cond.selects RX5 yX5_commit yX5_commit ∈ goodTs := goodTs_mem (List.mem_of_getElem? (i := 301) (by decide +kernel)) (by decide +kernel)
theorem gw_302 : Cond.code yX5_commit cX5_commit 6 (some .int) ∈ goodTs := goodTs_mem (List.mem_of_getElem? (i := 302) (by decide +kernel)) (by decide +kernel)
theorem gw_303 : Cond.methodLink RX5 85 yX5_commitRefusal ∈ goodTs := goodTs_mem (List.mem_of_getElem? (i := 303) (by decide +kernel)) (by decide +kernel)
theorem gw_305 : Cond.instanceMethod yX5_commitRefusal ∈ goodTs := goodTs_mem (List.mem_of_getElem? (i := 305) (by decide +kernel)) (by decide +kernel)
theorem gw_306 : Cond.code yX5_commitRefusal cX5_commitRefusal 3 (some .int) ∈ goodTs := goodTs_mem (List.mem_of_getElem? (i := 306) (by decide +kernel)) (by decide +kernel)
theorem gw_307 : Cond.methodLink RX5 189 yX5_isStale ∈ goodTs := goodTs_mem (List.mem_of_getElem? (i := 307) (by decide +kernel)) (by decide +kernel)
theorem gw_309 : Cond.instanceMethod yX5_isStale ∈ goodTs := goodTs_mem (List.mem_of_getElem? (i := 309) (by decide +kernel)) (by decide +kernel)
theorem gw_310 : Cond.code yX5_isStale cX5_isStale 4 (some .boolean) ∈ goodTs := goodTs_mem (List.mem_of_getElem? (i := 310) (by decide +kernel)) (by decide +kernel)
theorem gw_311 : Cond.methodLink RX5 106 yX5_selectedBy ∈ goodTs := goodTs_mem (List.mem_of_getElem? (i := 311) (by decide +kernel)) (by decide +kernel)
theorem gw_313 : Cond.instanceMethod yX5_selectedBy ∈ goodTs := goodTs_mem (List.mem_of_getElem? (i := 313) (by decide +kernel)) (by decide +kernel)
theorem gw_314 : Cond.code yX5_selectedBy cX5_selectedBy 4 (some .int) ∈ goodTs := goodTs_mem (List.mem_of_getElem? (i := 314) (by decide +kernel)) (by decide +kernel)
theorem gw_315 : Cond.methodLinkNest RX5 135 yX2_isThere RX5 ∈ lw_tbl := List.mem_of_getElem? (i := 315) (by decide +kernel)
theorem gw_317 : Cond.instanceMethod yX2_isThere ∈ goodTs := goodTs_mem (List.mem_of_getElem? (i := 317) (by decide +kernel)) (by decide +kernel)
theorem gw_318 : Cond.code yX2_isThere cX2_isThere 1 (some .boolean) ∈ goodTs := goodTs_mem (List.mem_of_getElem? (i := 318) (by decide +kernel)) (by decide +kernel)
theorem gw_319 : Cond.methodLinkNest RX5 186 yX2_tip RX5 ∈ lw_tbl := List.mem_of_getElem? (i := 319) (by decide +kernel)
theorem gw_321 : Cond.instanceMethod yX2_tip ∈ goodTs := goodTs_mem (List.mem_of_getElem? (i := 321) (by decide +kernel)) (by decide +kernel)
theorem gw_322 : Cond.code yX2_tip cX2_tip 2 (some .int) ∈ goodTs := goodTs_mem (List.mem_of_getElem? (i := 322) (by decide +kernel)) (by decide +kernel)
theorem gw_323 : Cond.methodLinkNest RX5 202 yX2_isAlive RX5 ∈ lw_tbl := List.mem_of_getElem? (i := 323) (by decide +kernel)
theorem gw_325 : Cond.instanceMethod yX2_isAlive ∈ goodTs := goodTs_mem (List.mem_of_getElem? (i := 325) (by decide +kernel)) (by decide +kernel)
theorem gw_326 : Cond.code yX2_isAlive cX2_isAlive 2 (some .boolean) ∈ goodTs := goodTs_mem (List.mem_of_getElem? (i := 326) (by decide +kernel)) (by decide +kernel)
theorem gw_327 : Cond.methodLink RX5 193 yX5_isModified ∈ goodTs := goodTs_mem (List.mem_of_getElem? (i := 327) (by decide +kernel)) (by decide +kernel)
theorem gw_328 : Cond.static yX5_isModified ∈ goodTs := goodTs_mem (List.mem_of_getElem? (i := 328) (by decide +kernel)) (by decide +kernel)
theorem gw_329 : Cond.code yX5_isModified cX5_isModified 2 (some .boolean) ∈ goodTs := goodTs_mem (List.mem_of_getElem? (i := 329) (by decide +kernel)) (by decide +kernel)
theorem gw_330 : Cond.methodLinkNest RX5 196 yX4_hasMarks RX5 ∈ lw_tbl := List.mem_of_getElem? (i := 330) (by decide +kernel)
theorem gw_331 : Cond.methodLink RX5 199 yX5_hasRoomToCommit ∈ goodTs := goodTs_mem (List.mem_of_getElem? (i := 331) (by decide +kernel)) (by decide +kernel)
theorem gw_332 : Cond.static yX5_hasRoomToCommit ∈ goodTs := goodTs_mem (List.mem_of_getElem? (i := 332) (by decide +kernel)) (by decide +kernel)
theorem gw_333 : Cond.code yX5_hasRoomToCommit cX5_hasRoomToCommit 4 (some .boolean) ∈ goodTs := goodTs_mem (List.mem_of_getElem? (i := 333) (by decide +kernel)) (by decide +kernel)
theorem gw_334 : Cond.methodLinkNest RX5 124 yX2_hasRoom RX5 ∈ lw_tbl := List.mem_of_getElem? (i := 334) (by decide +kernel)
theorem gw_336 : Cond.instanceMethod yX2_hasRoom ∈ goodTs := goodTs_mem (List.mem_of_getElem? (i := 336) (by decide +kernel)) (by decide +kernel)
theorem gw_337 : Cond.code yX2_hasRoom cX2_hasRoom 3 (some .boolean) ∈ goodTs := goodTs_mem (List.mem_of_getElem? (i := 337) (by decide +kernel)) (by decide +kernel)
theorem gw_338 : Cond.methodLink RX5 93 yX5_commitGone ∈ goodTs := goodTs_mem (List.mem_of_getElem? (i := 338) (by decide +kernel)) (by decide +kernel)
theorem gw_339 : Cond.static yX5_commitGone ∈ goodTs := goodTs_mem (List.mem_of_getElem? (i := 339) (by decide +kernel)) (by decide +kernel)
theorem gw_340 : Cond.code yX5_commitGone cX5_commitGone 4 (some .int) ∈ goodTs := goodTs_mem (List.mem_of_getElem? (i := 340) (by decide +kernel)) (by decide +kernel)
theorem gw_341 : Cond.methodLink RX5 205 yX5_branchToCommitOn ∈ goodTs := goodTs_mem (List.mem_of_getElem? (i := 341) (by decide +kernel)) (by decide +kernel)
theorem gw_342 : Cond.static yX5_branchToCommitOn ∈ goodTs := goodTs_mem (List.mem_of_getElem? (i := 342) (by decide +kernel)) (by decide +kernel)
theorem gw_343 : Cond.code yX5_branchToCommitOn cX5_branchToCommitOn 2 (some .int) ∈ goodTs := goodTs_mem (List.mem_of_getElem? (i := 343) (by decide +kernel)) (by decide +kernel)
theorem gw_344 : Cond.methodLinkNest RX5 141 yX2_append RX5 ∈ lw_tbl := List.mem_of_getElem? (i := 344) (by decide +kernel)
theorem gw_346 : Cond.instanceMethod yX2_append ∈ goodTs := goodTs_mem (List.mem_of_getElem? (i := 346) (by decide +kernel)) (by decide +kernel)
theorem gw_347 : Cond.code yX2_append cX2_append 6 (some .int) ∈ goodTs := goodTs_mem (List.mem_of_getElem? (i := 347) (by decide +kernel)) (by decide +kernel)
theorem gw_348 : Cond.methodLinkNest RX5 131 yX2_openBranch RX5 ∈ lw_tbl := List.mem_of_getElem? (i := 348) (by decide +kernel)
theorem gw_350 : Cond.instanceMethod yX2_openBranch ∈ goodTs := goodTs_mem (List.mem_of_getElem? (i := 350) (by decide +kernel)) (by decide +kernel)
theorem gw_351 : Cond.code yX2_openBranch cX2_openBranch 2 (some .int) ∈ goodTs := goodTs_mem (List.mem_of_getElem? (i := 351) (by decide +kernel)) (by decide +kernel)
theorem gw_352 : Cond.methodLink RX2 63 yX2_freeMagic ∈ goodTs := goodTs_mem (List.mem_of_getElem? (i := 352) (by decide +kernel)) (by decide +kernel)
theorem gw_354 : Cond.instanceMethod yX2_freeMagic ∈ goodTs := goodTs_mem (List.mem_of_getElem? (i := 354) (by decide +kernel)) (by decide +kernel)
theorem gw_355 : Cond.code yX2_freeMagic cX2_freeMagic 4 (some .int) ∈ goodTs := goodTs_mem (List.mem_of_getElem? (i := 355) (by decide +kernel)) (by decide +kernel)
theorem gw_356 : Cond.methodLink RX2 67 yX2_openBranchWith ∈ goodTs := goodTs_mem (List.mem_of_getElem? (i := 356) (by decide +kernel)) (by decide +kernel)
theorem gw_358 : Cond.instanceMethod yX2_openBranchWith ∈ goodTs := goodTs_mem (List.mem_of_getElem? (i := 358) (by decide +kernel)) (by decide +kernel)
theorem gw_359 : Cond.code yX2_openBranchWith cX2_openBranchWith 4 (some .int) ∈ goodTs := goodTs_mem (List.mem_of_getElem? (i := 359) (by decide +kernel)) (by decide +kernel)
theorem gw_360 : Cond.methodLink RX5 96 yX5_commitText ∈ goodTs := goodTs_mem (List.mem_of_getElem? (i := 360) (by decide +kernel)) (by decide +kernel)
theorem gw_361 : Cond.static yX5_commitText ∈ goodTs := goodTs_mem (List.mem_of_getElem? (i := 361) (by decide +kernel)) (by decide +kernel)
theorem gw_362 : Cond.code yX5_commitText cX5_commitText 4 (some .int) ∈ goodTs := goodTs_mem (List.mem_of_getElem? (i := 362) (by decide +kernel)) (by decide +kernel)
theorem gw_363 : Cond.methodLink RL 34 yX5_update ∈ goodTs := goodTs_mem (List.mem_of_getElem? (i := 363) (by decide +kernel)) (by decide +kernel)
theorem gw_364 : Cond.instanceMethod yX5_update ∈ goodTs := goodTs_mem (List.mem_of_getElem? (i := 364) (by decide +kernel)) (by decide +kernel)
theorem gw_365 : Cond.selects RX5 yX5_update yX5_update ∈ goodTs := goodTs_mem (List.mem_of_getElem? (i := 365) (by decide +kernel)) (by decide +kernel)
theorem gw_366 : Cond.code yX5_update cX5_update 8 (some .int) ∈ goodTs := goodTs_mem (List.mem_of_getElem? (i := 366) (by decide +kernel)) (by decide +kernel)
theorem gw_367 : Cond.methodLink RX5 99 yX5_isStickyWish ∈ goodTs := goodTs_mem (List.mem_of_getElem? (i := 367) (by decide +kernel)) (by decide +kernel)
theorem gw_369 : Cond.instanceMethod yX5_isStickyWish ∈ goodTs := goodTs_mem (List.mem_of_getElem? (i := 369) (by decide +kernel)) (by decide +kernel)
theorem gw_370 : Cond.code yX5_isStickyWish cX5_isStickyWish 2 (some .boolean) ∈ goodTs := goodTs_mem (List.mem_of_getElem? (i := 370) (by decide +kernel)) (by decide +kernel)
theorem gw_371 : Cond.methodLink RX5 118 yX5_isTag ∈ goodTs := goodTs_mem (List.mem_of_getElem? (i := 371) (by decide +kernel)) (by decide +kernel)
theorem gw_372 : Cond.static yX5_isTag ∈ goodTs := goodTs_mem (List.mem_of_getElem? (i := 372) (by decide +kernel)) (by decide +kernel)
theorem gw_373 : Cond.code yX5_isTag cX5_isTag 1 (some .boolean) ∈ goodTs := goodTs_mem (List.mem_of_getElem? (i := 373) (by decide +kernel)) (by decide +kernel)
theorem gw_374 : Cond.methodLink RX5 102 yX5_wishedTag ∈ goodTs := goodTs_mem (List.mem_of_getElem? (i := 374) (by decide +kernel)) (by decide +kernel)
theorem gw_375 : Cond.static yX5_wishedTag ∈ goodTs := goodTs_mem (List.mem_of_getElem? (i := 375) (by decide +kernel)) (by decide +kernel)
theorem gw_376 : Cond.code yX5_wishedTag cX5_wishedTag 2 (some .int) ∈ goodTs := goodTs_mem (List.mem_of_getElem? (i := 376) (by decide +kernel)) (by decide +kernel)
theorem gw_377 : Cond.methodLink RX5 110 yX5_updateCopy ∈ goodTs := goodTs_mem (List.mem_of_getElem? (i := 377) (by decide +kernel)) (by decide +kernel)
theorem gw_379 : Cond.instanceMethod yX5_updateCopy ∈ goodTs := goodTs_mem (List.mem_of_getElem? (i := 379) (by decide +kernel)) (by decide +kernel)
theorem gw_380 : Cond.code yX5_updateCopy cX5_updateCopy 5 (some .int) ∈ goodTs := goodTs_mem (List.mem_of_getElem? (i := 380) (by decide +kernel)) (by decide +kernel)
theorem gw_381 : Cond.methodLink RX5 208 yX5_updateToNothing ∈ goodTs := goodTs_mem (List.mem_of_getElem? (i := 381) (by decide +kernel)) (by decide +kernel)
theorem gw_382 : Cond.static yX5_updateToNothing ∈ goodTs := goodTs_mem (List.mem_of_getElem? (i := 382) (by decide +kernel)) (by decide +kernel)
theorem gw_383 : Cond.code yX5_updateToNothing cX5_updateToNothing 2 (some .int) ∈ goodTs := goodTs_mem (List.mem_of_getElem? (i := 383) (by decide +kernel)) (by decide +kernel)
theorem gw_384 : Cond.methodLink RX5 211 yX5_mergeInto ∈ goodTs := goodTs_mem (List.mem_of_getElem? (i := 384) (by decide +kernel)) (by decide +kernel)
theorem gw_386 : Cond.instanceMethod yX5_mergeInto ∈ goodTs := goodTs_mem (List.mem_of_getElem? (i := 386) (by decide +kernel)) (by decide +kernel)
theorem gw_387 : Cond.code yX5_mergeInto cX5_mergeInto 4 (some .int) ∈ goodTs := goodTs_mem (List.mem_of_getElem? (i := 387) (by decide +kernel)) (by decide +kernel)
theorem gw_388 : Cond.methodLinkNest RX5 214 yX3_merge RX5 ∈ lw_tbl := List.mem_of_getElem? (i := 388) (by decide +kernel)
theorem gw_390 : Cond.instanceMethod yX3_merge ∈ goodTs := goodTs_mem (List.mem_of_getElem? (i := 390) (by decide +kernel)) (by decide +kernel)
theorem gw_391 : Cond.code yX3_merge cX3_merge 13 (none) ∈ goodTs := goodTs_mem (List.mem_of_getElem? (i := 391) (by decide +kernel)) (by decide +kernel)
theorem gw_392 : Cond.methodLinkNest RX3 35 yX1_compare RX5 ∈ lw_tbl := List.mem_of_getElem? (i := 392) (by decide +kernel)
theorem gw_394 : Cond.instanceMethod yX1_compare ∈ goodTs := goodTs_mem (List.mem_of_getElem? (i := 394) (by decide +kernel)) (by decide +kernel)
theorem gw_395 : Cond.code yX1_compare cX1_compare 5 (none) ∈ goodTs := goodTs_mem (List.mem_of_getElem? (i := 395) (by decide +kernel)) (by decide +kernel)
theorem gw_396 : Cond.methodLinkNest RX1 36 yX4_spread RX5 ∈ lw_tbl := List.mem_of_getElem? (i := 396) (by decide +kernel)
theorem gw_397 : Cond.static yX4_spread ∈ goodTs := goodTs_mem (List.mem_of_getElem? (i := 397) (by decide +kernel)) (by decide +kernel)
theorem gw_398 : Cond.code yX4_spread cX4_spread 7 (some .int) ∈ goodTs := goodTs_mem (List.mem_of_getElem? (i := 398) (by decide +kernel)) (by decide +kernel)
theorem gw_399 : Cond.methodLink RX4 24 yX4_lineCount ∈ goodTs := goodTs_mem (List.mem_of_getElem? (i := 399) (by decide +kernel)) (by decide +kernel)
theorem gw_400 : Cond.static yX4_lineCount ∈ goodTs := goodTs_mem (List.mem_of_getElem? (i := 400) (by decide +kernel)) (by decide +kernel)
theorem gw_401 : Cond.code yX4_lineCount cX4_lineCount 5 (some .int) ∈ goodTs := goodTs_mem (List.mem_of_getElem? (i := 401) (by decide +kernel)) (by decide +kernel)
theorem gw_402 : Cond.methodLink RX1 42 yX1_measureRests ∈ goodTs := goodTs_mem (List.mem_of_getElem? (i := 402) (by decide +kernel)) (by decide +kernel)
theorem gw_404 : Cond.instanceMethod yX1_measureRests ∈ goodTs := goodTs_mem (List.mem_of_getElem? (i := 404) (by decide +kernel)) (by decide +kernel)
theorem gw_405 : Cond.code yX1_measureRests cX1_measureRests 3 (none) ∈ goodTs := goodTs_mem (List.mem_of_getElem? (i := 405) (by decide +kernel)) (by decide +kernel)
theorem gw_406 : Cond.methodLink RX1 48 Lib.Math.max.name ∈ goodTs := goodTs_mem (List.mem_of_getElem? (i := 406) (by decide +kernel)) (by decide +kernel)
theorem gw_407 : Cond.static Lib.Math.max.name ∈ goodTs := goodTs_mem (List.mem_of_getElem? (i := 407) (by decide +kernel)) (by decide +kernel)
theorem gw_408 : Cond.code Lib.Math.max.name Lib.Math.max.code 2 (some .int) ∈ goodTs := goodTs_mem (List.mem_of_getElem? (i := 408) (by decide +kernel)) (by decide +kernel)
theorem gw_409 : Cond.methodLink RX1 45 yX1_pairLines ∈ goodTs := goodTs_mem (List.mem_of_getElem? (i := 409) (by decide +kernel)) (by decide +kernel)
theorem gw_411 : Cond.instanceMethod yX1_pairLines ∈ goodTs := goodTs_mem (List.mem_of_getElem? (i := 411) (by decide +kernel)) (by decide +kernel)
theorem gw_412 : Cond.code yX1_pairLines cX1_pairLines 3 (none) ∈ goodTs := goodTs_mem (List.mem_of_getElem? (i := 412) (by decide +kernel)) (by decide +kernel)
theorem gw_413 : Cond.methodLink RX1 54 yJ7_fill ∈ goodTs := goodTs_mem (List.mem_of_getElem? (i := 413) (by decide +kernel)) (by decide +kernel)
theorem gw_414 : Cond.methodLink RX3 46 yX3_mergePart ∈ goodTs := goodTs_mem (List.mem_of_getElem? (i := 414) (by decide +kernel)) (by decide +kernel)
theorem gw_416 : Cond.instanceMethod yX3_mergePart ∈ goodTs := goodTs_mem (List.mem_of_getElem? (i := 416) (by decide +kernel)) (by decide +kernel)
theorem gw_417 : Cond.code yX3_mergePart cX3_mergePart 7 (none) ∈ goodTs := goodTs_mem (List.mem_of_getElem? (i := 417) (by decide +kernel)) (by decide +kernel)
theorem gw_418 : Cond.methodLink RX3 63 yX3_isSame ∈ goodTs := goodTs_mem (List.mem_of_getElem? (i := 418) (by decide +kernel)) (by decide +kernel)
theorem gw_419 : Cond.static yX3_isSame ∈ goodTs := goodTs_mem (List.mem_of_getElem? (i := 419) (by decide +kernel)) (by decide +kernel)
theorem gw_420 : Cond.code yX3_isSame cX3_isSame 7 (some .boolean) ∈ goodTs := goodTs_mem (List.mem_of_getElem? (i := 420) (by decide +kernel)) (by decide +kernel)
theorem gw_421 : Cond.methodLink RX3 67 yX3_takeAll ∈ goodTs := goodTs_mem (List.mem_of_getElem? (i := 421) (by decide +kernel)) (by decide +kernel)
theorem gw_423 : Cond.instanceMethod yX3_takeAll ∈ goodTs := goodTs_mem (List.mem_of_getElem? (i := 423) (by decide +kernel)) (by decide +kernel)
theorem gw_424 : Cond.code yX3_takeAll cX3_takeAll 5 (none) ∈ goodTs := goodTs_mem (List.mem_of_getElem? (i := 424) (by decide +kernel)) (by decide +kernel)
theorem gw_425 : Cond.methodLink RX3 53 yX3_take ∈ goodTs := goodTs_mem (List.mem_of_getElem? (i := 425) (by decide +kernel)) (by decide +kernel)
theorem gw_427 : Cond.instanceMethod yX3_take ∈ goodTs := goodTs_mem (List.mem_of_getElem? (i := 427) (by decide +kernel)) (by decide +kernel)
theorem gw_428 : Cond.code yX3_take cX3_take 2 (none) ∈ goodTs := goodTs_mem (List.mem_of_getElem? (i := 428) (by decide +kernel)) (by decide +kernel)
theorem gw_429 : Cond.constantLong RX3 71 (fL 32) ∈ goodTs := goodTs_mem (List.mem_of_getElem? (i := 429) (by decide +kernel)) (by decide +kernel)
theorem gw_430 : Cond.methodLinkNest RX5 218 yX3_isTooLong RX5 ∈ lw_tbl := List.mem_of_getElem? (i := 430) (by decide +kernel)
theorem gw_432 : Cond.instanceMethod yX3_isTooLong ∈ goodTs := goodTs_mem (List.mem_of_getElem? (i := 432) (by decide +kernel)) (by decide +kernel)
theorem gw_433 : Cond.code yX3_isTooLong cX3_isTooLong 1 (some .boolean) ∈ goodTs := goodTs_mem (List.mem_of_getElem? (i := 433) (by decide +kernel)) (by decide +kernel)
theorem gw_434 : Cond.methodLink RL 39 yX5_tag ∈ goodTs := goodTs_mem (List.mem_of_getElem? (i := 434) (by decide +kernel)) (by decide +kernel)
theorem gw_435 : Cond.instanceMethod yX5_tag ∈ goodTs := goodTs_mem (List.mem_of_getElem? (i := 435) (by decide +kernel)) (by decide +kernel)
theorem gw_436 : Cond.selects RX5 yX5_tag yX5_tag ∈ goodTs := goodTs_mem (List.mem_of_getElem? (i := 436) (by decide +kernel)) (by decide +kernel)
theorem gw_437 : Cond.code yX5_tag cX5_tag 8 (some .boolean) ∈ goodTs := goodTs_mem (List.mem_of_getElem? (i := 437) (by decide +kernel)) (by decide +kernel)
theorem gw_438 : Cond.methodLink RL 44 yX5_bring ∈ goodTs := goodTs_mem (List.mem_of_getElem? (i := 438) (by decide +kernel)) (by decide +kernel)
theorem gw_439 : Cond.instanceMethod yX5_bring ∈ goodTs := goodTs_mem (List.mem_of_getElem? (i := 439) (by decide +kernel)) (by decide +kernel)
theorem gw_440 : Cond.selects RX5 yX5_bring yX5_bring ∈ goodTs := goodTs_mem (List.mem_of_getElem? (i := 440) (by decide +kernel)) (by decide +kernel)
theorem gw_441 : Cond.code yX5_bring cX5_bring 6 (some .int) ∈ goodTs := goodTs_mem (List.mem_of_getElem? (i := 441) (by decide +kernel)) (by decide +kernel)
theorem gw_442 : Cond.methodLinkNest RX5 145 yX2_openVendorBranch RX5 ∈ lw_tbl := List.mem_of_getElem? (i := 442) (by decide +kernel)
theorem gw_444 : Cond.instanceMethod yX2_openVendorBranch ∈ goodTs := goodTs_mem (List.mem_of_getElem? (i := 444) (by decide +kernel)) (by decide +kernel)
theorem gw_445 : Cond.code yX2_openVendorBranch cX2_openVendorBranch 1 (none) ∈ goodTs := goodTs_mem (List.mem_of_getElem? (i := 445) (by decide +kernel)) (by decide +kernel)
theorem gw_446 : Cond.methodLink RL 49 yX5_entry ∈ goodTs := goodTs_mem (List.mem_of_getElem? (i := 446) (by decide +kernel)) (by decide +kernel)
theorem gw_447 : Cond.instanceMethod yX5_entry ∈ goodTs := goodTs_mem (List.mem_of_getElem? (i := 447) (by decide +kernel)) (by decide +kernel)
theorem gw_448 : Cond.selects RX5 yX5_entry yX5_entry ∈ goodTs := goodTs_mem (List.mem_of_getElem? (i := 448) (by decide +kernel)) (by decide +kernel)
theorem gw_449 : Cond.code yX5_entry cX5_entry 3 (some .int) ∈ goodTs := goodTs_mem (List.mem_of_getElem? (i := 449) (by decide +kernel)) (by decide +kernel)
theorem gw_450 : Cond.methodLink RL 53 yX5_removed ∈ goodTs := goodTs_mem (List.mem_of_getElem? (i := 450) (by decide +kernel)) (by decide +kernel)
theorem gw_451 : Cond.instanceMethod yX5_removed ∈ goodTs := goodTs_mem (List.mem_of_getElem? (i := 451) (by decide +kernel)) (by decide +kernel)
theorem gw_452 : Cond.selects RX5 yX5_removed yX5_removed ∈ goodTs := goodTs_mem (List.mem_of_getElem? (i := 452) (by decide +kernel)) (by decide +kernel)
theorem gw_453 : Cond.code yX5_removed cX5_removed 3 (some .boolean) ∈ goodTs := goodTs_mem (List.mem_of_getElem? (i := 453) (by decide +kernel)) (by decide +kernel)
theorem gw_454 : Cond.methodLink RL 57 yX5_local ∈ goodTs := goodTs_mem (List.mem_of_getElem? (i := 454) (by decide +kernel)) (by decide +kernel)
theorem gw_455 : Cond.instanceMethod yX5_local ∈ goodTs := goodTs_mem (List.mem_of_getElem? (i := 455) (by decide +kernel)) (by decide +kernel)
theorem gw_456 : Cond.selects RX5 yX5_local yX5_local ∈ goodTs := goodTs_mem (List.mem_of_getElem? (i := 456) (by decide +kernel)) (by decide +kernel)
theorem gw_457 : Cond.code yX5_local cX5_local 4 (some .long) ∈ goodTs := goodTs_mem (List.mem_of_getElem? (i := 457) (by decide +kernel)) (by decide +kernel)
theorem gw_458 : Cond.constantLong RX5 151 (fL (-1)) ∈ goodTs := goodTs_mem (List.mem_of_getElem? (i := 458) (by decide +kernel)) (by decide +kernel)
theorem gw_459 : Cond.methodLink RL 62 yX5_selected ∈ goodTs := goodTs_mem (List.mem_of_getElem? (i := 459) (by decide +kernel)) (by decide +kernel)
theorem gw_460 : Cond.instanceMethod yX5_selected ∈ goodTs := goodTs_mem (List.mem_of_getElem? (i := 460) (by decide +kernel)) (by decide +kernel)
theorem gw_461 : Cond.selects RX5 yX5_selected yX5_selected ∈ goodTs := goodTs_mem (List.mem_of_getElem? (i := 461) (by decide +kernel)) (by decide +kernel)
theorem gw_462 : Cond.code yX5_selected cX5_selected 3 (some .int) ∈ goodTs := goodTs_mem (List.mem_of_getElem? (i := 462) (by decide +kernel)) (by decide +kernel)
theorem gw_463 : Cond.methodLink RL 66 yX5_sticky ∈ goodTs := goodTs_mem (List.mem_of_getElem? (i := 463) (by decide +kernel)) (by decide +kernel)
theorem gw_464 : Cond.instanceMethod yX5_sticky ∈ goodTs := goodTs_mem (List.mem_of_getElem? (i := 464) (by decide +kernel)) (by decide +kernel)
theorem gw_465 : Cond.selects RX5 yX5_sticky yX5_sticky ∈ goodTs := goodTs_mem (List.mem_of_getElem? (i := 465) (by decide +kernel)) (by decide +kernel)
theorem gw_466 : Cond.code yX5_sticky cX5_sticky 3 (some .int) ∈ goodTs := goodTs_mem (List.mem_of_getElem? (i := 466) (by decide +kernel)) (by decide +kernel)
theorem gw_467 : Cond.methodLink RL 70 yX5_revisions ∈ goodTs := goodTs_mem (List.mem_of_getElem? (i := 467) (by decide +kernel)) (by decide +kernel)
theorem gw_468 : Cond.instanceMethod yX5_revisions ∈ goodTs := goodTs_mem (List.mem_of_getElem? (i := 468) (by decide +kernel)) (by decide +kernel)
theorem gw_469 : Cond.selects RX5 yX5_revisions yX5_revisions ∈ goodTs := goodTs_mem (List.mem_of_getElem? (i := 469) (by decide +kernel)) (by decide +kernel)
theorem gw_470 : Cond.code yX5_revisions cX5_revisions 2 (some .int) ∈ goodTs := goodTs_mem (List.mem_of_getElem? (i := 470) (by decide +kernel)) (by decide +kernel)
theorem gw_471 : Cond.methodLink RL 75 yX5_number ∈ goodTs := goodTs_mem (List.mem_of_getElem? (i := 471) (by decide +kernel)) (by decide +kernel)
theorem gw_472 : Cond.instanceMethod yX5_number ∈ goodTs := goodTs_mem (List.mem_of_getElem? (i := 472) (by decide +kernel)) (by decide +kernel)
theorem gw_473 : Cond.selects RX5 yX5_number yX5_number ∈ goodTs := goodTs_mem (List.mem_of_getElem? (i := 473) (by decide +kernel)) (by decide +kernel)
theorem gw_474 : Cond.code yX5_number cX5_number 4 (some .int) ∈ goodTs := goodTs_mem (List.mem_of_getElem? (i := 474) (by decide +kernel)) (by decide +kernel)
theorem gw_475 : Cond.methodLink RX5 156 yX5_isRevision ∈ goodTs := goodTs_mem (List.mem_of_getElem? (i := 475) (by decide +kernel)) (by decide +kernel)
theorem gw_477 : Cond.instanceMethod yX5_isRevision ∈ goodTs := goodTs_mem (List.mem_of_getElem? (i := 477) (by decide +kernel)) (by decide +kernel)
theorem gw_478 : Cond.code yX5_isRevision cX5_isRevision 3 (some .boolean) ∈ goodTs := goodTs_mem (List.mem_of_getElem? (i := 478) (by decide +kernel)) (by decide +kernel)
theorem gw_479 : Cond.methodLinkNest RX5 159 yX2_numberPart RX5 ∈ lw_tbl := List.mem_of_getElem? (i := 479) (by decide +kernel)
theorem gw_481 : Cond.instanceMethod yX2_numberPart ∈ goodTs := goodTs_mem (List.mem_of_getElem? (i := 481) (by decide +kernel)) (by decide +kernel)
theorem gw_482 : Cond.code yX2_numberPart cX2_numberPart 7 (some .int) ∈ goodTs := goodTs_mem (List.mem_of_getElem? (i := 482) (by decide +kernel)) (by decide +kernel)
theorem gw_483 : Cond.methodLink RX2 71 yX2_depth ∈ goodTs := goodTs_mem (List.mem_of_getElem? (i := 483) (by decide +kernel)) (by decide +kernel)
theorem gw_485 : Cond.instanceMethod yX2_depth ∈ goodTs := goodTs_mem (List.mem_of_getElem? (i := 485) (by decide +kernel)) (by decide +kernel)
theorem gw_486 : Cond.code yX2_depth cX2_depth 5 (some .int) ∈ goodTs := goodTs_mem (List.mem_of_getElem? (i := 486) (by decide +kernel)) (by decide +kernel)
theorem gw_487 : Cond.methodLink RL 79 yX5_content ∈ goodTs := goodTs_mem (List.mem_of_getElem? (i := 487) (by decide +kernel)) (by decide +kernel)
theorem gw_488 : Cond.instanceMethod yX5_content ∈ goodTs := goodTs_mem (List.mem_of_getElem? (i := 488) (by decide +kernel)) (by decide +kernel)
theorem gw_489 : Cond.selects RX5 yX5_content yX5_content ∈ goodTs := goodTs_mem (List.mem_of_getElem? (i := 489) (by decide +kernel)) (by decide +kernel)
theorem gw_490 : Cond.code yX5_content cX5_content 3 (some .long) ∈ goodTs := goodTs_mem (List.mem_of_getElem? (i := 490) (by decide +kernel)) (by decide +kernel)
theorem gw_491 : Cond.methodLink RL 83 yX5_dead ∈ goodTs := goodTs_mem (List.mem_of_getElem? (i := 491) (by decide +kernel)) (by decide +kernel)
theorem gw_492 : Cond.instanceMethod yX5_dead ∈ goodTs := goodTs_mem (List.mem_of_getElem? (i := 492) (by decide +kernel)) (by decide +kernel)
theorem gw_493 : Cond.selects RX5 yX5_dead yX5_dead ∈ goodTs := goodTs_mem (List.mem_of_getElem? (i := 493) (by decide +kernel)) (by decide +kernel)
theorem gw_494 : Cond.code yX5_dead cX5_dead 3 (some .boolean) ∈ goodTs := goodTs_mem (List.mem_of_getElem? (i := 494) (by decide +kernel)) (by decide +kernel)
theorem gw_495 : Cond.methodLink RL 87 yX5_kept ∈ goodTs := goodTs_mem (List.mem_of_getElem? (i := 495) (by decide +kernel)) (by decide +kernel)
theorem gw_496 : Cond.instanceMethod yX5_kept ∈ goodTs := goodTs_mem (List.mem_of_getElem? (i := 496) (by decide +kernel)) (by decide +kernel)
theorem gw_497 : Cond.selects RX5 yX5_kept yX5_kept ∈ goodTs := goodTs_mem (List.mem_of_getElem? (i := 497) (by decide +kernel)) (by decide +kernel)
theorem gw_498 : Cond.code yX5_kept cX5_kept 5 (some .int) ∈ goodTs := goodTs_mem (List.mem_of_getElem? (i := 498) (by decide +kernel)) (by decide +kernel)
theorem gw_499 : Cond.methodLinkNest RX5 171 yX2_keptAgainst RX5 ∈ lw_tbl := List.mem_of_getElem? (i := 499) (by decide +kernel)
theorem gw_501 : Cond.instanceMethod yX2_keptAgainst ∈ goodTs := goodTs_mem (List.mem_of_getElem? (i := 501) (by decide +kernel)) (by decide +kernel)
theorem gw_502 : Cond.code yX2_keptAgainst cX2_keptAgainst 2 (some .int) ∈ goodTs := goodTs_mem (List.mem_of_getElem? (i := 502) (by decide +kernel)) (by decide +kernel)
theorem gw_503 : Cond.methodLink RX2 74 yX2_nextOnTrunk ∈ goodTs := goodTs_mem (List.mem_of_getElem? (i := 503) (by decide +kernel)) (by decide +kernel)
theorem gw_505 : Cond.instanceMethod yX2_nextOnTrunk ∈ goodTs := goodTs_mem (List.mem_of_getElem? (i := 505) (by decide +kernel)) (by decide +kernel)
theorem gw_506 : Cond.code yX2_nextOnTrunk cX2_nextOnTrunk 3 (some .int) ∈ goodTs := goodTs_mem (List.mem_of_getElem? (i := 506) (by decide +kernel)) (by decide +kernel)
theorem gw_507 : Cond.methodLinkNest RX5 174 yX4_lineCount RX5 ∈ lw_tbl := List.mem_of_getElem? (i := 507) (by decide +kernel)
theorem gw_508 : Cond.methodLinkNest RX5 178 yX1_compare RX5 ∈ lw_tbl := List.mem_of_getElem? (i := 508) (by decide +kernel)
theorem gw_509 : Cond.methodLinkNest RX5 182 yX1_size RX5 ∈ lw_tbl := List.mem_of_getElem? (i := 509) (by decide +kernel)
theorem gw_511 : Cond.instanceMethod yX1_size ∈ goodTs := goodTs_mem (List.mem_of_getElem? (i := 511) (by decide +kernel)) (by decide +kernel)
theorem gw_512 : Cond.code yX1_size cX1_size 1 (some .int) ∈ goodTs := goodTs_mem (List.mem_of_getElem? (i := 512) (by decide +kernel)) (by decide +kernel)
theorem gw_513 : Cond.methodLink RL 91 yX5_named ∈ goodTs := goodTs_mem (List.mem_of_getElem? (i := 513) (by decide +kernel)) (by decide +kernel)
theorem gw_514 : Cond.instanceMethod yX5_named ∈ goodTs := goodTs_mem (List.mem_of_getElem? (i := 514) (by decide +kernel)) (by decide +kernel)
theorem gw_515 : Cond.selects RX5 yX5_named yX5_named ∈ goodTs := goodTs_mem (List.mem_of_getElem? (i := 515) (by decide +kernel)) (by decide +kernel)
theorem gw_516 : Cond.code yX5_named cX5_named 3 (some .int) ∈ goodTs := goodTs_mem (List.mem_of_getElem? (i := 516) (by decide +kernel)) (by decide +kernel)
theorem gw_517 : Cond.methodLink RL 95 yX5_standard ∈ goodTs := goodTs_mem (List.mem_of_getElem? (i := 517) (by decide +kernel)) (by decide +kernel)
theorem gw_518 : Cond.instanceMethod yX5_standard ∈ goodTs := goodTs_mem (List.mem_of_getElem? (i := 518) (by decide +kernel)) (by decide +kernel)
theorem gw_519 : Cond.selects RX5 yX5_standard yX5_standard ∈ goodTs := goodTs_mem (List.mem_of_getElem? (i := 519) (by decide +kernel)) (by decide +kernel)
theorem gw_520 : Cond.code yX5_standard cX5_standard 2 (some .int) ∈ goodTs := goodTs_mem (List.mem_of_getElem? (i := 520) (by decide +kernel)) (by decide +kernel)
theorem gw_527 : Cond.fieldLink RX6 7 RX6 "count" "[I" ∈ goodTs := goodTs_mem (List.mem_of_getElem? (i := 527) (by decide +kernel)) (by decide +kernel)
theorem gw_528 : Cond.fieldLink RX6 13 RX6 "text" "[J" ∈ goodTs := goodTs_mem (List.mem_of_getElem? (i := 528) (by decide +kernel)) (by decide +kernel)
theorem gw_529 : Cond.fieldLink RX6 17 RX6 "gone" "[Z" ∈ goodTs := goodTs_mem (List.mem_of_getElem? (i := 529) (by decide +kernel)) (by decide +kernel)
theorem gw_530 : Cond.fieldLink RX6 21 RX6 "branchOf" "[I" ∈ goodTs := goodTs_mem (List.mem_of_getElem? (i := 530) (by decide +kernel)) (by decide +kernel)
theorem gw_531 : Cond.fieldLink RX6 24 RX6 "place" "[I" ∈ goodTs := goodTs_mem (List.mem_of_getElem? (i := 531) (by decide +kernel)) (by decide +kernel)
theorem gw_532 : Cond.fieldLink RX6 27 RX6 "branches" "[I" ∈ goodTs := goodTs_mem (List.mem_of_getElem? (i := 532) (by decide +kernel)) (by decide +kernel)
theorem gw_533 : Cond.fieldLink RX6 30 RX6 "point" "[I" ∈ goodTs := goodTs_mem (List.mem_of_getElem? (i := 533) (by decide +kernel)) (by decide +kernel)
theorem gw_534 : Cond.fieldLink RX6 33 RX6 "magic" "[I" ∈ goodTs := goodTs_mem (List.mem_of_getElem? (i := 534) (by decide +kernel)) (by decide +kernel)
theorem gw_535 : Cond.fieldLink RX6 36 RX6 "vendor" "[I" ∈ goodTs := goodTs_mem (List.mem_of_getElem? (i := 535) (by decide +kernel)) (by decide +kernel)
theorem gw_536 : Cond.fieldLink RX6 39 RX6 "standard" "[I" ∈ goodTs := goodTs_mem (List.mem_of_getElem? (i := 536) (by decide +kernel)) (by decide +kernel)
theorem gw_537 : Cond.fieldLink RX6 42 RX6 "sort" "[I" ∈ goodTs := goodTs_mem (List.mem_of_getElem? (i := 537) (by decide +kernel)) (by decide +kernel)
theorem gw_538 : Cond.fieldLink RX6 45 RX6 "names" "[I" ∈ goodTs := goodTs_mem (List.mem_of_getElem? (i := 538) (by decide +kernel)) (by decide +kernel)
theorem gw_539 : Cond.fieldLink RX6 48 RX6 "entry" "[I" ∈ goodTs := goodTs_mem (List.mem_of_getElem? (i := 539) (by decide +kernel)) (by decide +kernel)
theorem gw_540 : Cond.fieldLink RX6 51 RX6 "out" "[Z" ∈ goodTs := goodTs_mem (List.mem_of_getElem? (i := 540) (by decide +kernel)) (by decide +kernel)
theorem gw_541 : Cond.fieldLink RX6 54 RX6 "mine" "[J" ∈ goodTs := goodTs_mem (List.mem_of_getElem? (i := 541) (by decide +kernel)) (by decide +kernel)
theorem gw_542 : Cond.fieldLink RX6 57 RX6 "stuck" "[I" ∈ goodTs := goodTs_mem (List.mem_of_getElem? (i := 542) (by decide +kernel)) (by decide +kernel)
theorem gw_543 : Cond.fieldLink RX6 60 RX6 "common" "[I" ∈ goodTs := goodTs_mem (List.mem_of_getElem? (i := 543) (by decide +kernel)) (by decide +kernel)
theorem gw_544 : Cond.fieldLink RX6 63 RX6 "withA" "[I" ∈ goodTs := goodTs_mem (List.mem_of_getElem? (i := 544) (by decide +kernel)) (by decide +kernel)
theorem gw_545 : Cond.fieldLink RX6 66 RX6 "withB" "[I" ∈ goodTs := goodTs_mem (List.mem_of_getElem? (i := 545) (by decide +kernel)) (by decide +kernel)
theorem gw_546 : Cond.fieldLink RX6 69 RX6 "merged" "[I" ∈ goodTs := goodTs_mem (List.mem_of_getElem? (i := 546) (by decide +kernel)) (by decide +kernel)
theorem gw_547 : Cond.fieldLink RX6 92 RX6 "lines" "I" ∈ goodTs := goodTs_mem (List.mem_of_getElem? (i := 547) (by decide +kernel)) (by decide +kernel)
theorem gw_548 : Cond.fieldLink RX6 104 RX6 "overlaps" "Z" ∈ goodTs := goodTs_mem (List.mem_of_getElem? (i := 548) (by decide +kernel)) (by decide +kernel)
theorem gw_594 : Cond.methodLink RL 19 yX6_add ∈ goodTs := goodTs_mem (List.mem_of_getElem? (i := 594) (by decide +kernel)) (by decide +kernel)
theorem gw_595 : Cond.instanceMethod yX6_add ∈ goodTs := goodTs_mem (List.mem_of_getElem? (i := 595) (by decide +kernel)) (by decide +kernel)
theorem gw_596 : Cond.selects RX6 yX6_add yX6_add ∈ goodTs := goodTs_mem (List.mem_of_getElem? (i := 596) (by decide +kernel)) (by decide +kernel)
theorem gw_597 : Cond.code yX6_add cX6_add 5 (some .boolean) ∈ goodTs := goodTs_mem (List.mem_of_getElem? (i := 597) (by decide +kernel)) (by decide +kernel)
theorem gw_598 : Cond.methodLink RX6 120 yX6_noPair ∈ goodTs := goodTs_mem (List.mem_of_getElem? (i := 598) (by decide +kernel)) (by decide +kernel)
theorem gw_599 : Cond.static yX6_noPair ∈ goodTs := goodTs_mem (List.mem_of_getElem? (i := 599) (by decide +kernel)) (by decide +kernel)
theorem gw_600 : Cond.code yX6_noPair cX6_noPair 2 (some .boolean) ∈ goodTs := goodTs_mem (List.mem_of_getElem? (i := 600) (by decide +kernel)) (by decide +kernel)
theorem gw_601 : Cond.methodLink RX6 72 yX6_below ∈ goodTs := goodTs_mem (List.mem_of_getElem? (i := 601) (by decide +kernel)) (by decide +kernel)
theorem gw_602 : Cond.static yX6_below ∈ goodTs := goodTs_mem (List.mem_of_getElem? (i := 602) (by decide +kernel)) (by decide +kernel)
theorem gw_603 : Cond.code yX6_below cX6_below 2 (some .boolean) ∈ goodTs := goodTs_mem (List.mem_of_getElem? (i := 603) (by decide +kernel)) (by decide +kernel)
theorem gw_604 : Cond.methodLink RX6 123 yX6_noText ∈ goodTs := goodTs_mem (List.mem_of_getElem? (i := 604) (by decide +kernel)) (by decide +kernel)
theorem gw_605 : Cond.static yX6_noText ∈ goodTs := goodTs_mem (List.mem_of_getElem? (i := 605) (by decide +kernel)) (by decide +kernel)
theorem gw_606 : Cond.code yX6_noText cX6_noText 4 (some .boolean) ∈ goodTs := goodTs_mem (List.mem_of_getElem? (i := 606) (by decide +kernel)) (by decide +kernel)
theorem gw_607 : Cond.methodLink RX6 78 yX6_size ∈ goodTs := goodTs_mem (List.mem_of_getElem? (i := 607) (by decide +kernel)) (by decide +kernel)
theorem gw_608 : Cond.static yX6_size ∈ goodTs := goodTs_mem (List.mem_of_getElem? (i := 608) (by decide +kernel)) (by decide +kernel)
theorem gw_609 : Cond.code yX6_size cX6_size 5 (some .int) ∈ goodTs := goodTs_mem (List.mem_of_getElem? (i := 609) (by decide +kernel)) (by decide +kernel)
theorem gw_610 : Cond.constantLong RX6 76 (fL 32) ∈ goodTs := goodTs_mem (List.mem_of_getElem? (i := 610) (by decide +kernel)) (by decide +kernel)
theorem gw_611 : Cond.methodLink RX6 84 yX6_lineOf ∈ goodTs := goodTs_mem (List.mem_of_getElem? (i := 611) (by decide +kernel)) (by decide +kernel)
theorem gw_612 : Cond.static yX6_lineOf ∈ goodTs := goodTs_mem (List.mem_of_getElem? (i := 612) (by decide +kernel)) (by decide +kernel)
theorem gw_613 : Cond.code yX6_lineOf cX6_lineOf 3 (some .int) ∈ goodTs := goodTs_mem (List.mem_of_getElem? (i := 613) (by decide +kernel)) (by decide +kernel)
theorem gw_614 : Cond.constantLong RX6 82 (fL 31) ∈ goodTs := goodTs_mem (List.mem_of_getElem? (i := 614) (by decide +kernel)) (by decide +kernel)
theorem gw_615 : Cond.methodLink RX6 127 yX6_hasMarks ∈ goodTs := goodTs_mem (List.mem_of_getElem? (i := 615) (by decide +kernel)) (by decide +kernel)
theorem gw_616 : Cond.static yX6_hasMarks ∈ goodTs := goodTs_mem (List.mem_of_getElem? (i := 616) (by decide +kernel)) (by decide +kernel)
theorem gw_617 : Cond.code yX6_hasMarks cX6_hasMarks 4 (some .boolean) ∈ goodTs := goodTs_mem (List.mem_of_getElem? (i := 617) (by decide +kernel)) (by decide +kernel)
theorem gw_618 : Cond.methodLink RL 23 yX6_edit ∈ goodTs := goodTs_mem (List.mem_of_getElem? (i := 618) (by decide +kernel)) (by decide +kernel)
theorem gw_619 : Cond.instanceMethod yX6_edit ∈ goodTs := goodTs_mem (List.mem_of_getElem? (i := 619) (by decide +kernel)) (by decide +kernel)
theorem gw_620 : Cond.selects RX6 yX6_edit yX6_edit ∈ goodTs := goodTs_mem (List.mem_of_getElem? (i := 620) (by decide +kernel)) (by decide +kernel)
theorem gw_621 : Cond.code yX6_edit cX6_edit 5 (some .boolean) ∈ goodTs := goodTs_mem (List.mem_of_getElem? (i := 621) (by decide +kernel)) (by decide +kernel)
theorem gw_622 : Cond.methodLink RX6 130 yX6_hasLocal ∈ goodTs := goodTs_mem (List.mem_of_getElem? (i := 622) (by decide +kernel)) (by decide +kernel)
theorem gw_624 : Cond.instanceMethod yX6_hasLocal ∈ goodTs := goodTs_mem (List.mem_of_getElem? (i := 624) (by decide +kernel)) (by decide +kernel)
theorem gw_625 : Cond.code yX6_hasLocal cX6_hasLocal 2 (some .boolean) ∈ goodTs := goodTs_mem (List.mem_of_getElem? (i := 625) (by decide +kernel)) (by decide +kernel)
theorem gw_626 : Cond.methodLink RL 28 yX6_remove ∈ goodTs := goodTs_mem (List.mem_of_getElem? (i := 626) (by decide +kernel)) (by decide +kernel)
theorem gw_627 : Cond.instanceMethod yX6_remove ∈ goodTs := goodTs_mem (List.mem_of_getElem? (i := 627) (by decide +kernel)) (by decide +kernel)
theorem gw_628 : Cond.selects RX6 yX6_remove yX6_remove ∈ goodTs := goodTs_mem (List.mem_of_getElem? (i := 628) (by decide +kernel)) (by decide +kernel)
theorem gw_629 : Cond.code yX6_remove cX6_remove 4 (some .boolean) ∈ goodTs := goodTs_mem (List.mem_of_getElem? (i := 629) (by decide +kernel)) (by decide +kernel)
theorem gw_630 : Cond.methodLink RL 33 yX6_commit ∈ goodTs := goodTs_mem (List.mem_of_getElem? (i := 630) (by decide +kernel)) (by decide +kernel)
theorem gw_631 : Cond.instanceMethod yX6_commit ∈ goodTs := goodTs_mem (List.mem_of_getElem? (i := 631) (by decide +kernel)) (by decide +kernel)
theorem gw_632 : Cond.selects RX6 yX6_commit yX6_commit ∈ goodTs := goodTs_mem (List.mem_of_getElem? (i := 632) (by decide +kernel)) (by decide +kernel)
theorem gw_633 : Cond.code yX6_commit cX6_commit 9 (some .int) ∈ goodTs := goodTs_mem (List.mem_of_getElem? (i := 633) (by decide +kernel)) (by decide +kernel)
theorem gw_634 : Cond.methodLink RX6 143 yX6_bars ∈ goodTs := goodTs_mem (List.mem_of_getElem? (i := 634) (by decide +kernel)) (by decide +kernel)
theorem gw_636 : Cond.instanceMethod yX6_bars ∈ goodTs := goodTs_mem (List.mem_of_getElem? (i := 636) (by decide +kernel)) (by decide +kernel)
theorem gw_637 : Cond.code yX6_bars cX6_bars 8 (some .int) ∈ goodTs := goodTs_mem (List.mem_of_getElem? (i := 637) (by decide +kernel)) (by decide +kernel)
theorem gw_638 : Cond.methodLink RX6 134 yX6_selectedBy ∈ goodTs := goodTs_mem (List.mem_of_getElem? (i := 638) (by decide +kernel)) (by decide +kernel)
theorem gw_640 : Cond.instanceMethod yX6_selectedBy ∈ goodTs := goodTs_mem (List.mem_of_getElem? (i := 640) (by decide +kernel)) (by decide +kernel)
theorem gw_641 : Cond.code yX6_selectedBy cX6_selectedBy 5 (some .int) ∈ goodTs := goodTs_mem (List.mem_of_getElem? (i := 641) (by decide +kernel)) (by decide +kernel)
theorem gw_642 : Cond.methodLink RX6 116 yX6_last ∈ goodTs := goodTs_mem (List.mem_of_getElem? (i := 642) (by decide +kernel)) (by decide +kernel)
theorem gw_644 : Cond.instanceMethod yX6_last ∈ goodTs := goodTs_mem (List.mem_of_getElem? (i := 644) (by decide +kernel)) (by decide +kernel)
theorem gw_645 : Cond.code yX6_last cX6_last 5 (some .int) ∈ goodTs := goodTs_mem (List.mem_of_getElem? (i := 645) (by decide +kernel)) (by decide +kernel)
theorem gw_646 : Cond.methodLink RX6 137 yX6_noneOrDead ∈ goodTs := goodTs_mem (List.mem_of_getElem? (i := 646) (by decide +kernel)) (by decide +kernel)
theorem gw_648 : Cond.instanceMethod yX6_noneOrDead ∈ goodTs := goodTs_mem (List.mem_of_getElem? (i := 648) (by decide +kernel)) (by decide +kernel)
theorem gw_649 : Cond.code yX6_noneOrDead cX6_noneOrDead 3 (some .boolean) ∈ goodTs := goodTs_mem (List.mem_of_getElem? (i := 649) (by decide +kernel)) (by decide +kernel)
theorem gw_650 : Cond.methodLink RX6 140 yX6_modified ∈ goodTs := goodTs_mem (List.mem_of_getElem? (i := 650) (by decide +kernel)) (by decide +kernel)
theorem gw_652 : Cond.instanceMethod yX6_modified ∈ goodTs := goodTs_mem (List.mem_of_getElem? (i := 652) (by decide +kernel)) (by decide +kernel)
theorem gw_653 : Cond.code yX6_modified cX6_modified 3 (some .boolean) ∈ goodTs := goodTs_mem (List.mem_of_getElem? (i := 653) (by decide +kernel)) (by decide +kernel)
theorem gw_654 : Cond.methodLink RX6 146 yX6_revise ∈ goodTs := goodTs_mem (List.mem_of_getElem? (i := 654) (by decide +kernel)) (by decide +kernel)
theorem gw_656 : Cond.instanceMethod yX6_revise ∈ goodTs := goodTs_mem (List.mem_of_getElem? (i := 656) (by decide +kernel)) (by decide +kernel)
theorem gw_657 : Cond.code yX6_revise cX6_revise 8 (some .int) ∈ goodTs := goodTs_mem (List.mem_of_getElem? (i := 657) (by decide +kernel)) (by decide +kernel)
theorem gw_658 : Cond.methodLink RX6 150 yX6_freeMagic ∈ goodTs := goodTs_mem (List.mem_of_getElem? (i := 658) (by decide +kernel)) (by decide +kernel)
theorem gw_660 : Cond.instanceMethod yX6_freeMagic ∈ goodTs := goodTs_mem (List.mem_of_getElem? (i := 660) (by decide +kernel)) (by decide +kernel)
theorem gw_661 : Cond.code yX6_freeMagic cX6_freeMagic 6 (some .int) ∈ goodTs := goodTs_mem (List.mem_of_getElem? (i := 661) (by decide +kernel)) (by decide +kernel)
theorem gw_662 : Cond.methodLink RX6 153 yX6_branchAt ∈ goodTs := goodTs_mem (List.mem_of_getElem? (i := 662) (by decide +kernel)) (by decide +kernel)
theorem gw_664 : Cond.instanceMethod yX6_branchAt ∈ goodTs := goodTs_mem (List.mem_of_getElem? (i := 664) (by decide +kernel)) (by decide +kernel)
theorem gw_665 : Cond.code yX6_branchAt cX6_branchAt 5 (some .int) ∈ goodTs := goodTs_mem (List.mem_of_getElem? (i := 665) (by decide +kernel)) (by decide +kernel)
theorem gw_666 : Cond.methodLink RL 38 yX6_update ∈ goodTs := goodTs_mem (List.mem_of_getElem? (i := 666) (by decide +kernel)) (by decide +kernel)
theorem gw_667 : Cond.instanceMethod yX6_update ∈ goodTs := goodTs_mem (List.mem_of_getElem? (i := 667) (by decide +kernel)) (by decide +kernel)
theorem gw_668 : Cond.selects RX6 yX6_update yX6_update ∈ goodTs := goodTs_mem (List.mem_of_getElem? (i := 668) (by decide +kernel)) (by decide +kernel)
theorem gw_669 : Cond.code yX6_update cX6_update 7 (some .int) ∈ goodTs := goodTs_mem (List.mem_of_getElem? (i := 669) (by decide +kernel)) (by decide +kernel)
theorem gw_670 : Cond.methodLink RX6 169 yX6_updated ∈ goodTs := goodTs_mem (List.mem_of_getElem? (i := 670) (by decide +kernel)) (by decide +kernel)
theorem gw_672 : Cond.instanceMethod yX6_updated ∈ goodTs := goodTs_mem (List.mem_of_getElem? (i := 672) (by decide +kernel)) (by decide +kernel)
theorem gw_673 : Cond.code yX6_updated cX6_updated 6 (some .int) ∈ goodTs := goodTs_mem (List.mem_of_getElem? (i := 673) (by decide +kernel)) (by decide +kernel)
theorem gw_674 : Cond.methodLink RX6 157 yX6_take ∈ goodTs := goodTs_mem (List.mem_of_getElem? (i := 674) (by decide +kernel)) (by decide +kernel)
theorem gw_676 : Cond.instanceMethod yX6_take ∈ goodTs := goodTs_mem (List.mem_of_getElem? (i := 676) (by decide +kernel)) (by decide +kernel)
theorem gw_677 : Cond.code yX6_take cX6_take 4 (none) ∈ goodTs := goodTs_mem (List.mem_of_getElem? (i := 677) (by decide +kernel)) (by decide +kernel)
theorem gw_678 : Cond.methodLink RX6 161 yX6_merge ∈ goodTs := goodTs_mem (List.mem_of_getElem? (i := 678) (by decide +kernel)) (by decide +kernel)
theorem gw_680 : Cond.instanceMethod yX6_merge ∈ goodTs := goodTs_mem (List.mem_of_getElem? (i := 680) (by decide +kernel)) (by decide +kernel)
theorem gw_681 : Cond.code yX6_merge cX6_merge 14 (none) ∈ goodTs := goodTs_mem (List.mem_of_getElem? (i := 681) (by decide +kernel)) (by decide +kernel)
theorem gw_682 : Cond.methodLink RX6 100 yX6_pairUp ∈ goodTs := goodTs_mem (List.mem_of_getElem? (i := 682) (by decide +kernel)) (by decide +kernel)
theorem gw_684 : Cond.instanceMethod yX6_pairUp ∈ goodTs := goodTs_mem (List.mem_of_getElem? (i := 684) (by decide +kernel)) (by decide +kernel)
theorem gw_685 : Cond.code yX6_pairUp cX6_pairUp 8 (none) ∈ goodTs := goodTs_mem (List.mem_of_getElem? (i := 685) (by decide +kernel)) (by decide +kernel)
theorem gw_686 : Cond.methodLink RX6 88 yX6_fill ∈ goodTs := goodTs_mem (List.mem_of_getElem? (i := 686) (by decide +kernel)) (by decide +kernel)
theorem gw_688 : Cond.instanceMethod yX6_fill ∈ goodTs := goodTs_mem (List.mem_of_getElem? (i := 688) (by decide +kernel)) (by decide +kernel)
theorem gw_689 : Cond.code yX6_fill cX6_fill 10 (none) ∈ goodTs := goodTs_mem (List.mem_of_getElem? (i := 689) (by decide +kernel)) (by decide +kernel)
theorem gw_690 : Cond.methodLink RX6 108 yX6_alike ∈ goodTs := goodTs_mem (List.mem_of_getElem? (i := 690) (by decide +kernel)) (by decide +kernel)
theorem gw_691 : Cond.static yX6_alike ∈ goodTs := goodTs_mem (List.mem_of_getElem? (i := 691) (by decide +kernel)) (by decide +kernel)
theorem gw_692 : Cond.code yX6_alike cX6_alike 10 (some .boolean) ∈ goodTs := goodTs_mem (List.mem_of_getElem? (i := 692) (by decide +kernel)) (by decide +kernel)
theorem gw_693 : Cond.methodLink RX6 112 yX6_putAll ∈ goodTs := goodTs_mem (List.mem_of_getElem? (i := 693) (by decide +kernel)) (by decide +kernel)
theorem gw_695 : Cond.instanceMethod yX6_putAll ∈ goodTs := goodTs_mem (List.mem_of_getElem? (i := 695) (by decide +kernel)) (by decide +kernel)
theorem gw_696 : Cond.code yX6_putAll cX6_putAll 6 (none) ∈ goodTs := goodTs_mem (List.mem_of_getElem? (i := 696) (by decide +kernel)) (by decide +kernel)
theorem gw_697 : Cond.methodLink RX6 96 yX6_put ∈ goodTs := goodTs_mem (List.mem_of_getElem? (i := 697) (by decide +kernel)) (by decide +kernel)
theorem gw_699 : Cond.instanceMethod yX6_put ∈ goodTs := goodTs_mem (List.mem_of_getElem? (i := 699) (by decide +kernel)) (by decide +kernel)
theorem gw_700 : Cond.code yX6_put cX6_put 2 (none) ∈ goodTs := goodTs_mem (List.mem_of_getElem? (i := 700) (by decide +kernel)) (by decide +kernel)
theorem gw_701 : Cond.methodLink RX6 165 yX6_mergedText ∈ goodTs := goodTs_mem (List.mem_of_getElem? (i := 701) (by decide +kernel)) (by decide +kernel)
theorem gw_703 : Cond.instanceMethod yX6_mergedText ∈ goodTs := goodTs_mem (List.mem_of_getElem? (i := 703) (by decide +kernel)) (by decide +kernel)
theorem gw_704 : Cond.code yX6_mergedText cX6_mergedText 4 (some .long) ∈ goodTs := goodTs_mem (List.mem_of_getElem? (i := 704) (by decide +kernel)) (by decide +kernel)
theorem gw_705 : Cond.methodLink RL 43 yX6_tag ∈ goodTs := goodTs_mem (List.mem_of_getElem? (i := 705) (by decide +kernel)) (by decide +kernel)
theorem gw_706 : Cond.instanceMethod yX6_tag ∈ goodTs := goodTs_mem (List.mem_of_getElem? (i := 706) (by decide +kernel)) (by decide +kernel)
theorem gw_707 : Cond.selects RX6 yX6_tag yX6_tag ∈ goodTs := goodTs_mem (List.mem_of_getElem? (i := 707) (by decide +kernel)) (by decide +kernel)
theorem gw_708 : Cond.code yX6_tag cX6_tag 8 (some .boolean) ∈ goodTs := goodTs_mem (List.mem_of_getElem? (i := 708) (by decide +kernel)) (by decide +kernel)
theorem gw_709 : Cond.methodLink RL 48 yX6_bring ∈ goodTs := goodTs_mem (List.mem_of_getElem? (i := 709) (by decide +kernel)) (by decide +kernel)
theorem gw_710 : Cond.instanceMethod yX6_bring ∈ goodTs := goodTs_mem (List.mem_of_getElem? (i := 710) (by decide +kernel)) (by decide +kernel)
theorem gw_711 : Cond.selects RX6 yX6_bring yX6_bring ∈ goodTs := goodTs_mem (List.mem_of_getElem? (i := 711) (by decide +kernel)) (by decide +kernel)
theorem gw_712 : Cond.code yX6_bring cX6_bring 5 (some .int) ∈ goodTs := goodTs_mem (List.mem_of_getElem? (i := 712) (by decide +kernel)) (by decide +kernel)
theorem gw_713 : Cond.methodLink RX6 172 yX6_firstOfTrunk ∈ goodTs := goodTs_mem (List.mem_of_getElem? (i := 713) (by decide +kernel)) (by decide +kernel)
theorem gw_715 : Cond.instanceMethod yX6_firstOfTrunk ∈ goodTs := goodTs_mem (List.mem_of_getElem? (i := 715) (by decide +kernel)) (by decide +kernel)
theorem gw_716 : Cond.code yX6_firstOfTrunk cX6_firstOfTrunk 3 (some .int) ∈ goodTs := goodTs_mem (List.mem_of_getElem? (i := 716) (by decide +kernel)) (by decide +kernel)
theorem gw_717 : Cond.methodLink RL 52 yX6_entry ∈ goodTs := goodTs_mem (List.mem_of_getElem? (i := 717) (by decide +kernel)) (by decide +kernel)
theorem gw_718 : Cond.instanceMethod yX6_entry ∈ goodTs := goodTs_mem (List.mem_of_getElem? (i := 718) (by decide +kernel)) (by decide +kernel)
theorem gw_719 : Cond.selects RX6 yX6_entry yX6_entry ∈ goodTs := goodTs_mem (List.mem_of_getElem? (i := 719) (by decide +kernel)) (by decide +kernel)
theorem gw_720 : Cond.code yX6_entry cX6_entry 3 (some .int) ∈ goodTs := goodTs_mem (List.mem_of_getElem? (i := 720) (by decide +kernel)) (by decide +kernel)
theorem gw_721 : Cond.methodLink RL 56 yX6_removed ∈ goodTs := goodTs_mem (List.mem_of_getElem? (i := 721) (by decide +kernel)) (by decide +kernel)
theorem gw_722 : Cond.instanceMethod yX6_removed ∈ goodTs := goodTs_mem (List.mem_of_getElem? (i := 722) (by decide +kernel)) (by decide +kernel)
theorem gw_723 : Cond.selects RX6 yX6_removed yX6_removed ∈ goodTs := goodTs_mem (List.mem_of_getElem? (i := 723) (by decide +kernel)) (by decide +kernel)
theorem gw_724 : Cond.code yX6_removed cX6_removed 3 (some .boolean) ∈ goodTs := goodTs_mem (List.mem_of_getElem? (i := 724) (by decide +kernel)) (by decide +kernel)
theorem gw_725 : Cond.methodLink RL 61 yX6_local ∈ goodTs := goodTs_mem (List.mem_of_getElem? (i := 725) (by decide +kernel)) (by decide +kernel)
theorem gw_726 : Cond.instanceMethod yX6_local ∈ goodTs := goodTs_mem (List.mem_of_getElem? (i := 726) (by decide +kernel)) (by decide +kernel)
theorem gw_727 : Cond.selects RX6 yX6_local yX6_local ∈ goodTs := goodTs_mem (List.mem_of_getElem? (i := 727) (by decide +kernel)) (by decide +kernel)
theorem gw_728 : Cond.code yX6_local cX6_local 3 (some .long) ∈ goodTs := goodTs_mem (List.mem_of_getElem? (i := 728) (by decide +kernel)) (by decide +kernel)
theorem gw_729 : Cond.constantLong RX6 176 (fL (-1)) ∈ goodTs := goodTs_mem (List.mem_of_getElem? (i := 729) (by decide +kernel)) (by decide +kernel)
theorem gw_730 : Cond.methodLink RL 65 yX6_selected ∈ goodTs := goodTs_mem (List.mem_of_getElem? (i := 730) (by decide +kernel)) (by decide +kernel)
theorem gw_731 : Cond.instanceMethod yX6_selected ∈ goodTs := goodTs_mem (List.mem_of_getElem? (i := 731) (by decide +kernel)) (by decide +kernel)
theorem gw_732 : Cond.selects RX6 yX6_selected yX6_selected ∈ goodTs := goodTs_mem (List.mem_of_getElem? (i := 732) (by decide +kernel)) (by decide +kernel)
theorem gw_733 : Cond.code yX6_selected cX6_selected 3 (some .int) ∈ goodTs := goodTs_mem (List.mem_of_getElem? (i := 733) (by decide +kernel)) (by decide +kernel)
theorem gw_734 : Cond.methodLink RL 69 yX6_sticky ∈ goodTs := goodTs_mem (List.mem_of_getElem? (i := 734) (by decide +kernel)) (by decide +kernel)
theorem gw_735 : Cond.instanceMethod yX6_sticky ∈ goodTs := goodTs_mem (List.mem_of_getElem? (i := 735) (by decide +kernel)) (by decide +kernel)
theorem gw_736 : Cond.selects RX6 yX6_sticky yX6_sticky ∈ goodTs := goodTs_mem (List.mem_of_getElem? (i := 736) (by decide +kernel)) (by decide +kernel)
theorem gw_737 : Cond.code yX6_sticky cX6_sticky 3 (some .int) ∈ goodTs := goodTs_mem (List.mem_of_getElem? (i := 737) (by decide +kernel)) (by decide +kernel)
theorem gw_738 : Cond.methodLink RL 74 yX6_revisions ∈ goodTs := goodTs_mem (List.mem_of_getElem? (i := 738) (by decide +kernel)) (by decide +kernel)
theorem gw_739 : Cond.instanceMethod yX6_revisions ∈ goodTs := goodTs_mem (List.mem_of_getElem? (i := 739) (by decide +kernel)) (by decide +kernel)
theorem gw_740 : Cond.selects RX6 yX6_revisions yX6_revisions ∈ goodTs := goodTs_mem (List.mem_of_getElem? (i := 740) (by decide +kernel)) (by decide +kernel)
theorem gw_741 : Cond.code yX6_revisions cX6_revisions 2 (some .int) ∈ goodTs := goodTs_mem (List.mem_of_getElem? (i := 741) (by decide +kernel)) (by decide +kernel)
theorem gw_742 : Cond.methodLink RL 78 yX6_number ∈ goodTs := goodTs_mem (List.mem_of_getElem? (i := 742) (by decide +kernel)) (by decide +kernel)
theorem gw_743 : Cond.instanceMethod yX6_number ∈ goodTs := goodTs_mem (List.mem_of_getElem? (i := 743) (by decide +kernel)) (by decide +kernel)
theorem gw_744 : Cond.selects RX6 yX6_number yX6_number ∈ goodTs := goodTs_mem (List.mem_of_getElem? (i := 744) (by decide +kernel)) (by decide +kernel)
theorem gw_745 : Cond.code yX6_number cX6_number 7 (some .int) ∈ goodTs := goodTs_mem (List.mem_of_getElem? (i := 745) (by decide +kernel)) (by decide +kernel)
theorem gw_746 : Cond.methodLink RX6 178 yX6_noRevision ∈ goodTs := goodTs_mem (List.mem_of_getElem? (i := 746) (by decide +kernel)) (by decide +kernel)
theorem gw_748 : Cond.instanceMethod yX6_noRevision ∈ goodTs := goodTs_mem (List.mem_of_getElem? (i := 748) (by decide +kernel)) (by decide +kernel)
theorem gw_749 : Cond.code yX6_noRevision cX6_noRevision 3 (some .boolean) ∈ goodTs := goodTs_mem (List.mem_of_getElem? (i := 749) (by decide +kernel)) (by decide +kernel)
theorem gw_750 : Cond.methodLink RX6 181 yX6_parts ∈ goodTs := goodTs_mem (List.mem_of_getElem? (i := 750) (by decide +kernel)) (by decide +kernel)
theorem gw_752 : Cond.instanceMethod yX6_parts ∈ goodTs := goodTs_mem (List.mem_of_getElem? (i := 752) (by decide +kernel)) (by decide +kernel)
theorem gw_753 : Cond.code yX6_parts cX6_parts 5 (some .int) ∈ goodTs := goodTs_mem (List.mem_of_getElem? (i := 753) (by decide +kernel)) (by decide +kernel)
theorem gw_754 : Cond.methodLink RL 82 yX6_content ∈ goodTs := goodTs_mem (List.mem_of_getElem? (i := 754) (by decide +kernel)) (by decide +kernel)
theorem gw_755 : Cond.instanceMethod yX6_content ∈ goodTs := goodTs_mem (List.mem_of_getElem? (i := 755) (by decide +kernel)) (by decide +kernel)
theorem gw_756 : Cond.selects RX6 yX6_content yX6_content ∈ goodTs := goodTs_mem (List.mem_of_getElem? (i := 756) (by decide +kernel)) (by decide +kernel)
theorem gw_757 : Cond.code yX6_content cX6_content 3 (some .long) ∈ goodTs := goodTs_mem (List.mem_of_getElem? (i := 757) (by decide +kernel)) (by decide +kernel)
theorem gw_758 : Cond.methodLink RL 86 yX6_dead ∈ goodTs := goodTs_mem (List.mem_of_getElem? (i := 758) (by decide +kernel)) (by decide +kernel)
theorem gw_759 : Cond.instanceMethod yX6_dead ∈ goodTs := goodTs_mem (List.mem_of_getElem? (i := 759) (by decide +kernel)) (by decide +kernel)
theorem gw_760 : Cond.selects RX6 yX6_dead yX6_dead ∈ goodTs := goodTs_mem (List.mem_of_getElem? (i := 760) (by decide +kernel)) (by decide +kernel)
theorem gw_761 : Cond.code yX6_dead cX6_dead 3 (some .boolean) ∈ goodTs := goodTs_mem (List.mem_of_getElem? (i := 761) (by decide +kernel)) (by decide +kernel)
theorem gw_762 : Cond.methodLink RL 90 yX6_kept ∈ goodTs := goodTs_mem (List.mem_of_getElem? (i := 762) (by decide +kernel)) (by decide +kernel)
theorem gw_763 : Cond.instanceMethod yX6_kept ∈ goodTs := goodTs_mem (List.mem_of_getElem? (i := 763) (by decide +kernel)) (by decide +kernel)
theorem gw_764 : Cond.selects RX6 yX6_kept yX6_kept ∈ goodTs := goodTs_mem (List.mem_of_getElem? (i := 764) (by decide +kernel)) (by decide +kernel)
theorem gw_765 : Cond.code yX6_kept cX6_kept 8 (some .int) ∈ goodTs := goodTs_mem (List.mem_of_getElem? (i := 765) (by decide +kernel)) (by decide +kernel)
theorem gw_766 : Cond.methodLink RX6 184 yX6_revisionAt ∈ goodTs := goodTs_mem (List.mem_of_getElem? (i := 766) (by decide +kernel)) (by decide +kernel)
theorem gw_768 : Cond.instanceMethod yX6_revisionAt ∈ goodTs := goodTs_mem (List.mem_of_getElem? (i := 768) (by decide +kernel)) (by decide +kernel)
theorem gw_769 : Cond.code yX6_revisionAt cX6_revisionAt 5 (some .int) ∈ goodTs := goodTs_mem (List.mem_of_getElem? (i := 769) (by decide +kernel)) (by decide +kernel)
theorem gw_770 : Cond.methodLink RX6 187 yX6_difference ∈ goodTs := goodTs_mem (List.mem_of_getElem? (i := 770) (by decide +kernel)) (by decide +kernel)
theorem gw_772 : Cond.instanceMethod yX6_difference ∈ goodTs := goodTs_mem (List.mem_of_getElem? (i := 772) (by decide +kernel)) (by decide +kernel)
theorem gw_773 : Cond.code yX6_difference cX6_difference 5 (some .int) ∈ goodTs := goodTs_mem (List.mem_of_getElem? (i := 773) (by decide +kernel)) (by decide +kernel)
theorem gw_774 : Cond.methodLink RL 94 yX6_named ∈ goodTs := goodTs_mem (List.mem_of_getElem? (i := 774) (by decide +kernel)) (by decide +kernel)
theorem gw_775 : Cond.instanceMethod yX6_named ∈ goodTs := goodTs_mem (List.mem_of_getElem? (i := 775) (by decide +kernel)) (by decide +kernel)
theorem gw_776 : Cond.selects RX6 yX6_named yX6_named ∈ goodTs := goodTs_mem (List.mem_of_getElem? (i := 776) (by decide +kernel)) (by decide +kernel)
theorem gw_777 : Cond.code yX6_named cX6_named 3 (some .int) ∈ goodTs := goodTs_mem (List.mem_of_getElem? (i := 777) (by decide +kernel)) (by decide +kernel)
theorem gw_778 : Cond.methodLink RL 98 yX6_standard ∈ goodTs := goodTs_mem (List.mem_of_getElem? (i := 778) (by decide +kernel)) (by decide +kernel)
theorem gw_779 : Cond.instanceMethod yX6_standard ∈ goodTs := goodTs_mem (List.mem_of_getElem? (i := 779) (by decide +kernel)) (by decide +kernel)
theorem gw_780 : Cond.selects RX6 yX6_standard yX6_standard ∈ goodTs := goodTs_mem (List.mem_of_getElem? (i := 780) (by decide +kernel)) (by decide +kernel)
theorem gw_781 : Cond.code yX6_standard cX6_standard 2 (some .int) ∈ goodTs := goodTs_mem (List.mem_of_getElem? (i := 781) (by decide +kernel)) (by decide +kernel)
theorem gw_782 : Cond.constantLong RL 13 (fL 4294967295) ∈ goodTs := goodTs_mem (List.mem_of_getElem? (i := 782) (by decide +kernel)) (by decide +kernel)
/-! the table of places -/
def TB : List fEn := [(4, 4, [(2, 1), (2, 46), (2, 59), (2, 60), (2, 78)]),
  (3, 3, [(2, 2), (2, 13), (2, 24), (2, 35)]),
  (4, 2, [(2, 3), (2, 4), (2, 5), (2, 6), (2, 7), (0, 0), (2, 8), (2, 9), (2, 10), (2, 11), (0, 0), (0, 0), (0, 0), (2, 12)]),
  (2, 24, []),
  (1, 24, []),
  (0, 24, []),
  (0, 24, []),
  (0, 24, []),
  (0, 6, []),
  (0, 6, []),
  (0, 6, []),
  (0, 6, []),
  (0, 5, []),
  (4, 2, [(2, 14), (2, 15), (2, 16), (2, 17), (2, 18), (0, 0), (2, 19), (2, 20), (2, 21), (2, 22), (0, 0), (0, 0), (0, 0), (2, 23)]),
  (2, 24, []),
  (1, 24, []),
  (0, 24, []),
  (0, 24, []),
  (0, 24, []),
  (0, 6, []),
  (0, 6, []),
  (0, 6, []),
  (0, 6, []),
  (0, 5, []),
  (4, 2, [(2, 25), (2, 26), (2, 27), (2, 28), (2, 29), (0, 0), (2, 30), (2, 31), (2, 32), (2, 33), (0, 0), (0, 0), (0, 0), (2, 34)]),
  (2, 24, []),
  (1, 24, []),
  (0, 24, []),
  (0, 24, []),
  (0, 24, []),
  (0, 6, []),
  (0, 6, []),
  (0, 6, []),
  (0, 6, []),
  (0, 5, []),
  (4, 2, [(2, 36), (2, 37), (2, 38), (2, 39), (2, 40), (0, 0), (2, 41), (2, 42), (2, 43), (2, 44), (0, 0), (0, 0), (0, 0), (2, 45)]),
  (2, 24, []),
  (1, 24, []),
  (0, 24, []),
  (0, 24, []),
  (0, 24, []),
  (0, 6, []),
  (0, 6, []),
  (0, 6, []),
  (0, 6, []),
  (0, 5, []),
  (3, 4, [(2, 47), (2, 48), (2, 49), (2, 50), (2, 51), (2, 52), (2, 53), (2, 54), (2, 55), (2, 56), (2, 57), (2, 58)]),
  (4, 0, [(0, 0), (0, 0), (1, 0), (0, 0)]),
  (4, 0, [(0, 0), (0, 0), (1, 0), (0, 0)]),
  (4, 0, [(0, 0), (0, 0), (1, 0), (0, 0)]),
  (4, 0, [(0, 0), (0, 0), (1, 0), (0, 0)]),
  (4, 0, [(0, 0), (0, 0), (1, 0), (0, 0)]),
  (4, 0, [(0, 0), (0, 0), (1, 0), (0, 0)]),
  (4, 0, [(0, 0), (0, 0), (1, 0), (0, 0)]),
  (4, 0, [(0, 0), (0, 0), (1, 0), (0, 0)]),
  (4, 0, [(0, 0), (0, 0), (1, 0), (0, 0)]),
  (4, 0, [(0, 0), (0, 0), (1, 0), (0, 0)]),
  (4, 0, [(0, 0), (0, 0), (1, 0), (0, 0)]),
  (4, 0, [(0, 0), (0, 0), (1, 0), (0, 0)]),
  (0, 5, []),
  (4, 1, [(2, 61), (2, 62), (0, 0), (0, 0), (2, 63), (2, 77), (0, 0)]),
  (0, 12, []),
  (0, 12, []),
  (3, 5, [(2, 64), (2, 65), (2, 66), (2, 67), (2, 68), (2, 69), (2, 70), (2, 71), (2, 72), (2, 73), (2, 74), (2, 75), (2, 76)]),
  (0, 13, []),
  (0, 13, []),
  (0, 13, []),
  (0, 13, []),
  (0, 13, []),
  (0, 13, []),
  (0, 13, []),
  (0, 13, []),
  (0, 13, []),
  (0, 13, []),
  (0, 13, []),
  (0, 13, []),
  (0, 13, []),
  (0, 12, []),
  (4, 3, [(2, 79), (2, 97), (1, 0), (0, 0), (0, 0)]),
  (4, 1, [(2, 80), (2, 81), (0, 0), (0, 0), (2, 82), (2, 96), (0, 0)]),
  (0, 12, []),
  (0, 12, []),
  (3, 5, [(2, 83), (2, 84), (2, 85), (2, 86), (2, 87), (2, 88), (2, 89), (2, 90), (2, 91), (2, 92), (2, 93), (2, 94), (2, 95)]),
  (0, 13, []),
  (0, 13, []),
  (0, 13, []),
  (0, 13, []),
  (0, 13, []),
  (0, 13, []),
  (0, 13, []),
  (0, 13, []),
  (0, 13, []),
  (0, 13, []),
  (0, 13, []),
  (0, 13, []),
  (0, 13, []),
  (0, 12, []),
  (4, 1, [(2, 98), (2, 99), (0, 0), (0, 0), (2, 100), (2, 114), (0, 0)]),
  (0, 12, []),
  (0, 12, []),
  (3, 5, [(2, 101), (2, 102), (2, 103), (2, 104), (2, 105), (2, 106), (2, 107), (2, 108), (2, 109), (2, 110), (2, 111), (2, 112), (2, 113)]),
  (0, 13, []),
  (0, 13, []),
  (0, 13, []),
  (0, 13, []),
  (0, 13, []),
  (0, 13, []),
  (0, 13, []),
  (0, 13, []),
  (0, 13, []),
  (0, 13, []),
  (0, 13, []),
  (0, 13, []),
  (0, 13, []),
  (0, 12, []),
  (4, 5, [(2, 116), (2, 117), (2, 118), (2, 119), (2, 120), (2, 121), (2, 122), (2, 123), (2, 124), (2, 125), (2, 126), (2, 127), (2, 128), (2, 129), (2, 130), (2, 131), (2, 132), (2, 133), (2, 134), (2, 135), (0, 0), (0, 0)]),
  (0, 4, []),
  (2, 96, []),
  (1, 96, []),
  (0, 96, []),
  (0, 96, []),
  (0, 4, []),
  (0, 24, []),
  (0, 24, []),
  (0, 4, []),
  (0, 4, []),
  (0, 5, []),
  (0, 20, []),
  (0, 12, []),
  (1, 12, []),
  (2, 12, []),
  (0, 12, []),
  (0, 169, []),
  (0, 13, []),
  (0, 13, []),
  (0, 64, [])]
set_option maxRecDepth 100000 in
theorem TB_len : TB.length = 136 := rfl
def fIsH (P : Nat) : Prop := P = 2 ∨ P = 13 ∨ P = 24 ∨ P = 35
def fIsC (P : Nat) : Prop := 47 ≤ P ∧ P < 59
def fIsD (P : Nat) : Prop := P = 60 ∨ P = 79 ∨ P = 97
theorem fIsD_60 : fIsD 60 := by unfold fIsD; omega
theorem fIsD_79 : fIsD 79 := by unfold fIsD; omega
theorem fIsD_97 : fIsD 97 := by unfold fIsD; omega
theorem fIsH_of {P : Nat} (h : ∃ j, j < 4 ∧ P = 2 + 11 * j) : fIsH P := by
  obtain ⟨j, h1, rfl⟩ := h
  unfold fIsH
  omega
theorem fIsC_of {P : Nat} (h : ∃ j, j < 12 ∧ P = 47 + 1 * j) : fIsC P := by
  obtain ⟨j, h1, rfl⟩ := h
  unfold fIsC
  omega
theorem tb_RS : TB[0]? = some (4, 4, [(2, 1), (2, 46), (2, 59), (2, 60), (2, 78)]) := rfl
theorem tb_HA : TB[1]? = some (3, 3, [(2, 2), (2, 13), (2, 24), (2, 35)]) := rfl
theorem tb_HA_q : ∀ j, j < 4 → ([(2, 2), (2, 13), (2, 24), (2, 35)] : List (Nat × Nat))[j]? = some (2, 2 + 11 * j) := by decide
theorem tb_CA : TB[46]? = some (3, 4, [(2, 47), (2, 48), (2, 49), (2, 50), (2, 51), (2, 52), (2, 53), (2, 54), (2, 55), (2, 56), (2, 57), (2, 58)]) := rfl
theorem tb_CA_q : ∀ j, j < 12 → ([(2, 47), (2, 48), (2, 49), (2, 50), (2, 51), (2, 52), (2, 53), (2, 54), (2, 55), (2, 56), (2, 57), (2, 58)] : List (Nat × Nat))[j]? = some (2, 47 + 1 * j) := by decide
theorem tb_TS : TB[59]? = some (0, 5, []) := rfl
theorem tb_MG : TB[78]? = some (4, 3, [(2, 79), (2, 97), (1, 0), (0, 0), (0, 0)]) := rfl
theorem tb_MD : TB[115]? = some (4, 5, [(2, 116), (2, 117), (2, 118), (2, 119), (2, 120), (2, 121), (2, 122), (2, 123), (2, 124), (2, 125), (2, 126), (2, 127), (2, 128), (2, 129), (2, 130), (2, 131), (2, 132), (2, 133), (2, 134), (2, 135), (0, 0), (0, 0)]) := rfl
theorem tb_MD_1 : TB[116]? = some (0, 4, []) := rfl
theorem tb_MD_2 : TB[117]? = some (2, 96, []) := rfl
theorem tb_MD_3 : TB[118]? = some (1, 96, []) := rfl
theorem tb_MD_4 : TB[119]? = some (0, 96, []) := rfl
theorem tb_MD_5 : TB[120]? = some (0, 96, []) := rfl
theorem tb_MD_6 : TB[121]? = some (0, 4, []) := rfl
theorem tb_MD_7 : TB[122]? = some (0, 24, []) := rfl
theorem tb_MD_8 : TB[123]? = some (0, 24, []) := rfl
theorem tb_MD_9 : TB[124]? = some (0, 4, []) := rfl
theorem tb_MD_10 : TB[125]? = some (0, 4, []) := rfl
theorem tb_MD_11 : TB[126]? = some (0, 5, []) := rfl
theorem tb_MD_12 : TB[127]? = some (0, 20, []) := rfl
theorem tb_MD_13 : TB[128]? = some (0, 12, []) := rfl
theorem tb_MD_14 : TB[129]? = some (1, 12, []) := rfl
theorem tb_MD_15 : TB[130]? = some (2, 12, []) := rfl
theorem tb_MD_16 : TB[131]? = some (0, 12, []) := rfl
theorem tb_MD_17 : TB[132]? = some (0, 169, []) := rfl
theorem tb_MD_18 : TB[133]? = some (0, 13, []) := rfl
theorem tb_MD_19 : TB[134]? = some (0, 13, []) := rfl
theorem tb_MD_20 : TB[135]? = some (0, 64, []) := rfl
theorem tb_H {P : Nat} (h : fIsH P) : TB[P]? = some (4, 2, [(2, P + 1), (2, P + 2), (2, P + 3), (2, P + 4), (2, P + 5), (0, 0), (2, P + 6), (2, P + 7), (2, P + 8), (2, P + 9), (0, 0), (0, 0), (0, 0), (2, P + 10)]) := by rcases h with rfl | rfl | rfl | rfl <;> rfl
theorem tb_H_1 {P : Nat} (h : fIsH P) : TB[P + 1]? = some (2, 24, []) := by rcases h with rfl | rfl | rfl | rfl <;> rfl
theorem tb_H_2 {P : Nat} (h : fIsH P) : TB[P + 2]? = some (1, 24, []) := by rcases h with rfl | rfl | rfl | rfl <;> rfl
theorem tb_H_3 {P : Nat} (h : fIsH P) : TB[P + 3]? = some (0, 24, []) := by rcases h with rfl | rfl | rfl | rfl <;> rfl
theorem tb_H_4 {P : Nat} (h : fIsH P) : TB[P + 4]? = some (0, 24, []) := by rcases h with rfl | rfl | rfl | rfl <;> rfl
theorem tb_H_5 {P : Nat} (h : fIsH P) : TB[P + 5]? = some (0, 24, []) := by rcases h with rfl | rfl | rfl | rfl <;> rfl
theorem tb_H_6 {P : Nat} (h : fIsH P) : TB[P + 6]? = some (0, 6, []) := by rcases h with rfl | rfl | rfl | rfl <;> rfl
theorem tb_H_7 {P : Nat} (h : fIsH P) : TB[P + 7]? = some (0, 6, []) := by rcases h with rfl | rfl | rfl | rfl <;> rfl
theorem tb_H_8 {P : Nat} (h : fIsH P) : TB[P + 8]? = some (0, 6, []) := by rcases h with rfl | rfl | rfl | rfl <;> rfl
theorem tb_H_9 {P : Nat} (h : fIsH P) : TB[P + 9]? = some (0, 6, []) := by rcases h with rfl | rfl | rfl | rfl <;> rfl
theorem tb_H_10 {P : Nat} (h : fIsH P) : TB[P + 10]? = some (0, 5, []) := by rcases h with rfl | rfl | rfl | rfl <;> rfl
theorem tb_C {P : Nat} (h : fIsC P) : TB[P]? = some (4, 0, [(0, 0), (0, 0), (1, 0), (0, 0)]) := by
  unfold fIsC at h
  rcases (show P = 47 ∨ P = 48 ∨ P = 49 ∨ P = 50 ∨ P = 51 ∨ P = 52 ∨ P = 53 ∨ P = 54 ∨ P = 55 ∨ P = 56 ∨ P = 57 ∨ P = 58 by omega) with rfl | rfl | rfl | rfl | rfl | rfl | rfl | rfl | rfl | rfl | rfl | rfl <;> rfl
theorem tb_D {P : Nat} (h : fIsD P) : TB[P]? = some (4, 1, [(2, P + 1), (2, P + 2), (0, 0), (0, 0), (2, P + 3), (2, P + 17), (0, 0)]) := by rcases h with rfl | rfl | rfl <;> rfl
theorem tb_D_1 {P : Nat} (h : fIsD P) : TB[P + 1]? = some (0, 12, []) := by rcases h with rfl | rfl | rfl <;> rfl
theorem tb_D_2 {P : Nat} (h : fIsD P) : TB[P + 2]? = some (0, 12, []) := by rcases h with rfl | rfl | rfl <;> rfl
theorem tb_D_17 {P : Nat} (h : fIsD P) : TB[P + 17]? = some (0, 12, []) := by rcases h with rfl | rfl | rfl <;> rfl
theorem tb_Dc {P : Nat} (h : fIsD P) : TB[P + 3]? = some (3, 5, (List.range 13).map (fun k => (2, P + 4 + 1 * k))) := by rcases h with rfl | rfl | rfl <;> rfl
theorem tb_Dc_q (P : Nat) : ∀ j, j < 13 → ((List.range 13).map (fun k => ((2, P + 4 + 1 * k) : Nat × Nat)))[j]? = some (2, P + 4 + 1 * j) := by
  intro j hj
  simp [hj]
theorem tb_Dr {P Q : Nat} (h : fIsD P) (hq : ∃ j, j < 13 ∧ Q = P + 4 + 1 * j) : TB[Q]? = some (0, 13, []) := by
  obtain ⟨j, hj, rfl⟩ := hq
  rcases h with rfl | rfl | rfl <;> rcases (show j = 0 ∨ j = 1 ∨ j = 2 ∨ j = 3 ∨ j = 4 ∨ j = 5 ∨ j = 6 ∨ j = 7 ∨ j = 8 ∨ j = 9 ∨ j = 10 ∨ j = 11 ∨ j = 12 by omega) with rfl | rfl | rfl | rfl | rfl | rfl | rfl | rfl | rfl | rfl | rfl | rfl | rfl <;> rfl
abbrev GM (l : Launch) (p : Program) (e : Env) (s : State) (m : MethodId) (args : Array Value) (below : List Frame) (meth : Method) (c : Code) (D : va_G) (aC : Nat → ClassId) (ad : Nat → Nat) (nL fr lo rk : Nat) (pc : Nat) (lv : List (Nat × Value)) (st : List Value) (M : fMem) (d : fOp) : Prop := GO p l e (fRm fr lo) s m args below meth c vwCl D aC TB ad (fFr ad TB) nL 0 0 (fun r => MQ below (fQ vwCl D aC ad TB rk r) args s 0 0 (fFr ad TB)) pc lv st M d
end
section
/-! what the bytes say -/
theorem dX5_init_0 : decode cX5_init 0 = .ok (.aload_n 0, 1) := by decide +kernel
theorem dX5_init_1 : decode cX5_init 1 = .ok (.invokespecial 1, 3) := by decide +kernel
theorem dX5_init_4 : decode cX5_init 4 = .ok (.aload_n 0, 1) := by decide +kernel
theorem dX5_init_5 : decode cX5_init 5 = .ok (.iconst 4, 1) := by decide +kernel
theorem dX5_init_6 : decode cX5_init 6 = .ok (.anewarray 9, 3) := by decide +kernel
theorem dX5_init_9 : decode cX5_init 9 = .ok (.putfield 11, 3) := by decide +kernel
theorem dX5_init_12 : decode cX5_init 12 = .ok (.iconst 0, 1) := by decide +kernel
theorem dX5_init_13 : decode cX5_init 13 = .ok (.istore_n 1, 1) := by decide +kernel
theorem dX5_init_14 : decode cX5_init 14 = .ok (.iload_n 1, 1) := by decide +kernel
theorem dX5_init_15 : decode cX5_init 15 = .ok (.iconst 4, 1) := by decide +kernel
theorem dX5_init_16 : decode cX5_init 16 = .ok (.if_icmp .ge 22, 3) := by decide +kernel
theorem dX5_init_19 : decode cX5_init 19 = .ok (.aload_n 0, 1) := by decide +kernel
theorem dX5_init_20 : decode cX5_init 20 = .ok (.getfield 11, 3) := by decide +kernel
theorem dX5_init_23 : decode cX5_init 23 = .ok (.iload_n 1, 1) := by decide +kernel
theorem dX5_init_24 : decode cX5_init 24 = .ok (.new 9, 3) := by decide +kernel
theorem dX5_init_27 : decode cX5_init 27 = .ok (.dup, 1) := by decide +kernel
theorem dX5_init_28 : decode cX5_init 28 = .ok (.invokespecial 15, 3) := by decide +kernel
theorem dX5_init_31 : decode cX5_init 31 = .ok (.aastore, 1) := by decide +kernel
theorem dX5_init_32 : decode cX5_init 32 = .ok (.iinc 1 1, 3) := by decide +kernel
theorem dX5_init_35 : decode cX5_init 35 = .ok (.goto (-21), 3) := by decide +kernel
theorem dX5_init_38 : decode cX5_init 38 = .ok (.aload_n 0, 1) := by decide +kernel
theorem dX5_init_39 : decode cX5_init 39 = .ok (.bipush 12, 2) := by decide +kernel
theorem dX5_init_41 : decode cX5_init 41 = .ok (.anewarray 16, 3) := by decide +kernel
theorem dX5_init_44 : decode cX5_init 44 = .ok (.putfield 18, 3) := by decide +kernel
theorem dX5_init_47 : decode cX5_init 47 = .ok (.iconst 0, 1) := by decide +kernel
theorem dX5_init_48 : decode cX5_init 48 = .ok (.istore_n 1, 1) := by decide +kernel
theorem dX5_init_49 : decode cX5_init 49 = .ok (.iload_n 1, 1) := by decide +kernel
theorem dX5_init_50 : decode cX5_init 50 = .ok (.aload_n 0, 1) := by decide +kernel
theorem dX5_init_51 : decode cX5_init 51 = .ok (.getfield 18, 3) := by decide +kernel
theorem dX5_init_54 : decode cX5_init 54 = .ok (.arraylength, 1) := by decide +kernel
theorem dX5_init_55 : decode cX5_init 55 = .ok (.if_icmp .ge 22, 3) := by decide +kernel
theorem dX5_init_58 : decode cX5_init 58 = .ok (.aload_n 0, 1) := by decide +kernel
theorem dX5_init_59 : decode cX5_init 59 = .ok (.getfield 18, 3) := by decide +kernel
theorem dX5_init_62 : decode cX5_init 62 = .ok (.iload_n 1, 1) := by decide +kernel
theorem dX5_init_63 : decode cX5_init 63 = .ok (.new 16, 3) := by decide +kernel
theorem dX5_init_66 : decode cX5_init 66 = .ok (.dup, 1) := by decide +kernel
theorem dX5_init_67 : decode cX5_init 67 = .ok (.invokespecial 22, 3) := by decide +kernel
theorem dX5_init_70 : decode cX5_init 70 = .ok (.aastore, 1) := by decide +kernel
theorem dX5_init_71 : decode cX5_init 71 = .ok (.iinc 1 1, 3) := by decide +kernel
theorem dX5_init_74 : decode cX5_init 74 = .ok (.goto (-25), 3) := by decide +kernel
theorem dX5_init_77 : decode cX5_init 77 = .ok (.aload_n 0, 1) := by decide +kernel
theorem dX5_init_78 : decode cX5_init 78 = .ok (.iconst 5, 1) := by decide +kernel
theorem dX5_init_79 : decode cX5_init 79 = .ok (.newarray .int, 2) := by decide +kernel
theorem dX5_init_81 : decode cX5_init 81 = .ok (.putfield 23, 3) := by decide +kernel
theorem dX5_init_84 : decode cX5_init 84 = .ok (.aload_n 0, 1) := by decide +kernel
theorem dX5_init_85 : decode cX5_init 85 = .ok (.new 27, 3) := by decide +kernel
theorem dX5_init_88 : decode cX5_init 88 = .ok (.dup, 1) := by decide +kernel
theorem dX5_init_89 : decode cX5_init 89 = .ok (.invokespecial 29, 3) := by decide +kernel
theorem dX5_init_92 : decode cX5_init 92 = .ok (.putfield 30, 3) := by decide +kernel
theorem dX5_init_95 : decode cX5_init 95 = .ok (.aload_n 0, 1) := by decide +kernel
theorem dX5_init_96 : decode cX5_init 96 = .ok (.new 34, 3) := by decide +kernel
theorem dX5_init_99 : decode cX5_init 99 = .ok (.dup, 1) := by decide +kernel
theorem dX5_init_100 : decode cX5_init 100 = .ok (.invokespecial 36, 3) := by decide +kernel
theorem dX5_init_103 : decode cX5_init 103 = .ok (.putfield 37, 3) := by decide +kernel
theorem dX5_init_106 : decode cX5_init 106 = .ok (.return_, 1) := by decide +kernel
theorem dX2_init_0 : decode cX2_init 0 = .ok (.aload_n 0, 1) := by decide +kernel
theorem dX2_init_1 : decode cX2_init 1 = .ok (.invokespecial 3, 3) := by decide +kernel
theorem dX2_init_4 : decode cX2_init 4 = .ok (.aload_n 0, 1) := by decide +kernel
theorem dX2_init_5 : decode cX2_init 5 = .ok (.bipush 24, 2) := by decide +kernel
theorem dX2_init_7 : decode cX2_init 7 = .ok (.newarray .long, 2) := by decide +kernel
theorem dX2_init_9 : decode cX2_init 9 = .ok (.putfield 9, 3) := by decide +kernel
theorem dX2_init_12 : decode cX2_init 12 = .ok (.aload_n 0, 1) := by decide +kernel
theorem dX2_init_13 : decode cX2_init 13 = .ok (.bipush 24, 2) := by decide +kernel
theorem dX2_init_15 : decode cX2_init 15 = .ok (.newarray .boolean, 2) := by decide +kernel
theorem dX2_init_17 : decode cX2_init 17 = .ok (.putfield 15, 3) := by decide +kernel
theorem dX2_init_20 : decode cX2_init 20 = .ok (.aload_n 0, 1) := by decide +kernel
theorem dX2_init_21 : decode cX2_init 21 = .ok (.bipush 24, 2) := by decide +kernel
theorem dX2_init_23 : decode cX2_init 23 = .ok (.newarray .int, 2) := by decide +kernel
theorem dX2_init_25 : decode cX2_init 25 = .ok (.putfield 19, 3) := by decide +kernel
theorem dX2_init_28 : decode cX2_init 28 = .ok (.aload_n 0, 1) := by decide +kernel
theorem dX2_init_29 : decode cX2_init 29 = .ok (.bipush 24, 2) := by decide +kernel
theorem dX2_init_31 : decode cX2_init 31 = .ok (.newarray .int, 2) := by decide +kernel
theorem dX2_init_33 : decode cX2_init 33 = .ok (.putfield 23, 3) := by decide +kernel
theorem dX2_init_36 : decode cX2_init 36 = .ok (.aload_n 0, 1) := by decide +kernel
theorem dX2_init_37 : decode cX2_init 37 = .ok (.bipush 24, 2) := by decide +kernel
theorem dX2_init_39 : decode cX2_init 39 = .ok (.newarray .int, 2) := by decide +kernel
theorem dX2_init_41 : decode cX2_init 41 = .ok (.putfield 26, 3) := by decide +kernel
theorem dX2_init_44 : decode cX2_init 44 = .ok (.aload_n 0, 1) := by decide +kernel
theorem dX2_init_45 : decode cX2_init 45 = .ok (.iconst 0, 1) := by decide +kernel
theorem dX2_init_46 : decode cX2_init 46 = .ok (.putfield 29, 3) := by decide +kernel
theorem dX2_init_49 : decode cX2_init 49 = .ok (.aload_n 0, 1) := by decide +kernel
theorem dX2_init_50 : decode cX2_init 50 = .ok (.bipush 6, 2) := by decide +kernel
theorem dX2_init_52 : decode cX2_init 52 = .ok (.newarray .int, 2) := by decide +kernel
theorem dX2_init_54 : decode cX2_init 54 = .ok (.putfield 33, 3) := by decide +kernel
theorem dX2_init_57 : decode cX2_init 57 = .ok (.aload_n 0, 1) := by decide +kernel
theorem dX2_init_58 : decode cX2_init 58 = .ok (.bipush 6, 2) := by decide +kernel
theorem dX2_init_60 : decode cX2_init 60 = .ok (.newarray .int, 2) := by decide +kernel
theorem dX2_init_62 : decode cX2_init 62 = .ok (.putfield 36, 3) := by decide +kernel
theorem dX2_init_65 : decode cX2_init 65 = .ok (.aload_n 0, 1) := by decide +kernel
theorem dX2_init_66 : decode cX2_init 66 = .ok (.bipush 6, 2) := by decide +kernel
theorem dX2_init_68 : decode cX2_init 68 = .ok (.newarray .int, 2) := by decide +kernel
theorem dX2_init_70 : decode cX2_init 70 = .ok (.putfield 39, 3) := by decide +kernel
theorem dX2_init_73 : decode cX2_init 73 = .ok (.aload_n 0, 1) := by decide +kernel
theorem dX2_init_74 : decode cX2_init 74 = .ok (.bipush 6, 2) := by decide +kernel
theorem dX2_init_76 : decode cX2_init 76 = .ok (.newarray .int, 2) := by decide +kernel
theorem dX2_init_78 : decode cX2_init 78 = .ok (.putfield 42, 3) := by decide +kernel
theorem dX2_init_81 : decode cX2_init 81 = .ok (.aload_n 0, 1) := by decide +kernel
theorem dX2_init_82 : decode cX2_init 82 = .ok (.iconst 1, 1) := by decide +kernel
theorem dX2_init_83 : decode cX2_init 83 = .ok (.putfield 45, 3) := by decide +kernel
theorem dX2_init_86 : decode cX2_init 86 = .ok (.aload_n 0, 1) := by decide +kernel
theorem dX2_init_87 : decode cX2_init 87 = .ok (.iconst (-1), 1) := by decide +kernel
theorem dX2_init_88 : decode cX2_init 88 = .ok (.putfield 48, 3) := by decide +kernel
theorem dX2_init_91 : decode cX2_init 91 = .ok (.aload_n 0, 1) := by decide +kernel
theorem dX2_init_92 : decode cX2_init 92 = .ok (.iconst 0, 1) := by decide +kernel
theorem dX2_init_93 : decode cX2_init 93 = .ok (.putfield 51, 3) := by decide +kernel
theorem dX2_init_96 : decode cX2_init 96 = .ok (.aload_n 0, 1) := by decide +kernel
theorem dX2_init_97 : decode cX2_init 97 = .ok (.iconst 5, 1) := by decide +kernel
theorem dX2_init_98 : decode cX2_init 98 = .ok (.newarray .int, 2) := by decide +kernel
theorem dX2_init_100 : decode cX2_init 100 = .ok (.putfield 54, 3) := by decide +kernel
theorem dX2_init_103 : decode cX2_init 103 = .ok (.aload_n 0, 1) := by decide +kernel
theorem dX2_init_104 : decode cX2_init 104 = .ok (.getfield 33, 3) := by decide +kernel
theorem dX2_init_107 : decode cX2_init 107 = .ok (.iconst 0, 1) := by decide +kernel
theorem dX2_init_108 : decode cX2_init 108 = .ok (.iconst (-1), 1) := by decide +kernel
theorem dX2_init_109 : decode cX2_init 109 = .ok (.iastore, 1) := by decide +kernel
theorem dX2_init_110 : decode cX2_init 110 = .ok (.aload_n 0, 1) := by decide +kernel
theorem dX2_init_111 : decode cX2_init 111 = .ok (.getfield 36, 3) := by decide +kernel
theorem dX2_init_114 : decode cX2_init 114 = .ok (.iconst 0, 1) := by decide +kernel
theorem dX2_init_115 : decode cX2_init 115 = .ok (.iconst 1, 1) := by decide +kernel
theorem dX2_init_116 : decode cX2_init 116 = .ok (.iastore, 1) := by decide +kernel
theorem dX2_init_117 : decode cX2_init 117 = .ok (.aload_n 0, 1) := by decide +kernel
theorem dX2_init_118 : decode cX2_init 118 = .ok (.getfield 42, 3) := by decide +kernel
theorem dX2_init_121 : decode cX2_init 121 = .ok (.iconst 0, 1) := by decide +kernel
theorem dX2_init_122 : decode cX2_init 122 = .ok (.iconst (-1), 1) := by decide +kernel
theorem dX2_init_123 : decode cX2_init 123 = .ok (.iastore, 1) := by decide +kernel
theorem dX2_init_124 : decode cX2_init 124 = .ok (.aload_n 0, 1) := by decide +kernel
theorem dX2_init_125 : decode cX2_init 125 = .ok (.getfield 54, 3) := by decide +kernel
theorem dX2_init_128 : decode cX2_init 128 = .ok (.iconst (-1), 1) := by decide +kernel
theorem dX2_init_129 : decode cX2_init 129 = .ok (.invokestatic 57, 3) := by decide +kernel
theorem dX2_init_132 : decode cX2_init 132 = .ok (.return_, 1) := by decide +kernel
theorem dJ7_fill_0 : decode cJ7_fill 0 = .ok (.iconst 0, 1) := by decide +kernel
theorem dJ7_fill_1 : decode cJ7_fill 1 = .ok (.istore_n 2, 1) := by decide +kernel
theorem dJ7_fill_2 : decode cJ7_fill 2 = .ok (.aload_n 0, 1) := by decide +kernel
theorem dJ7_fill_3 : decode cJ7_fill 3 = .ok (.arraylength, 1) := by decide +kernel
theorem dJ7_fill_4 : decode cJ7_fill 4 = .ok (.istore_n 3, 1) := by decide +kernel
theorem dJ7_fill_5 : decode cJ7_fill 5 = .ok (.iload_n 2, 1) := by decide +kernel
theorem dJ7_fill_6 : decode cJ7_fill 6 = .ok (.iload_n 3, 1) := by decide +kernel
theorem dJ7_fill_7 : decode cJ7_fill 7 = .ok (.if_icmp .ge 13, 3) := by decide +kernel
theorem dJ7_fill_10 : decode cJ7_fill 10 = .ok (.aload_n 0, 1) := by decide +kernel
theorem dJ7_fill_11 : decode cJ7_fill 11 = .ok (.iload_n 2, 1) := by decide +kernel
theorem dJ7_fill_12 : decode cJ7_fill 12 = .ok (.iload_n 1, 1) := by decide +kernel
theorem dJ7_fill_13 : decode cJ7_fill 13 = .ok (.iastore, 1) := by decide +kernel
theorem dJ7_fill_14 : decode cJ7_fill 14 = .ok (.iinc 2 1, 3) := by decide +kernel
theorem dJ7_fill_17 : decode cJ7_fill 17 = .ok (.goto (-12), 3) := by decide +kernel
theorem dJ7_fill_20 : decode cJ7_fill 20 = .ok (.return_, 1) := by decide +kernel
theorem dX0_init_0 : decode cX0_init 0 = .ok (.aload_n 0, 1) := by decide +kernel
theorem dX0_init_1 : decode cX0_init 1 = .ok (.invokespecial 3, 3) := by decide +kernel
theorem dX0_init_4 : decode cX0_init 4 = .ok (.aload_n 0, 1) := by decide +kernel
theorem dX0_init_5 : decode cX0_init 5 = .ok (.iconst (-1), 1) := by decide +kernel
theorem dX0_init_6 : decode cX0_init 6 = .ok (.putfield 9, 3) := by decide +kernel
theorem dX0_init_9 : decode cX0_init 9 = .ok (.aload_n 0, 1) := by decide +kernel
theorem dX0_init_10 : decode cX0_init 10 = .ok (.iconst 0, 1) := by decide +kernel
theorem dX0_init_11 : decode cX0_init 11 = .ok (.putfield 15, 3) := by decide +kernel
theorem dX0_init_14 : decode cX0_init 14 = .ok (.aload_n 0, 1) := by decide +kernel
theorem dX0_init_15 : decode cX0_init 15 = .ok (.lconst 0, 1) := by decide +kernel
theorem dX0_init_16 : decode cX0_init 16 = .ok (.putfield 21, 3) := by decide +kernel
theorem dX0_init_19 : decode cX0_init 19 = .ok (.aload_n 0, 1) := by decide +kernel
theorem dX0_init_20 : decode cX0_init 20 = .ok (.iconst (-1), 1) := by decide +kernel
theorem dX0_init_21 : decode cX0_init 21 = .ok (.putfield 25, 3) := by decide +kernel
theorem dX0_init_24 : decode cX0_init 24 = .ok (.return_, 1) := by decide +kernel
theorem dX1_init_0 : decode cX1_init 0 = .ok (.aload_n 0, 1) := by decide +kernel
theorem dX1_init_1 : decode cX1_init 1 = .ok (.invokespecial 3, 3) := by decide +kernel
theorem dX1_init_4 : decode cX1_init 4 = .ok (.aload_n 0, 1) := by decide +kernel
theorem dX1_init_5 : decode cX1_init 5 = .ok (.bipush 12, 2) := by decide +kernel
theorem dX1_init_7 : decode cX1_init 7 = .ok (.newarray .int, 2) := by decide +kernel
theorem dX1_init_9 : decode cX1_init 9 = .ok (.putfield 9, 3) := by decide +kernel
theorem dX1_init_12 : decode cX1_init 12 = .ok (.aload_n 0, 1) := by decide +kernel
theorem dX1_init_13 : decode cX1_init 13 = .ok (.bipush 12, 2) := by decide +kernel
theorem dX1_init_15 : decode cX1_init 15 = .ok (.newarray .int, 2) := by decide +kernel
theorem dX1_init_17 : decode cX1_init 17 = .ok (.putfield 15, 3) := by decide +kernel
theorem dX1_init_20 : decode cX1_init 20 = .ok (.aload_n 0, 1) := by decide +kernel
theorem dX1_init_21 : decode cX1_init 21 = .ok (.iconst 0, 1) := by decide +kernel
theorem dX1_init_22 : decode cX1_init 22 = .ok (.putfield 18, 3) := by decide +kernel
theorem dX1_init_25 : decode cX1_init 25 = .ok (.aload_n 0, 1) := by decide +kernel
theorem dX1_init_26 : decode cX1_init 26 = .ok (.iconst 0, 1) := by decide +kernel
theorem dX1_init_27 : decode cX1_init 27 = .ok (.putfield 22, 3) := by decide +kernel
theorem dX1_init_30 : decode cX1_init 30 = .ok (.aload_n 0, 1) := by decide +kernel
theorem dX1_init_31 : decode cX1_init 31 = .ok (.bipush 13, 2) := by decide +kernel
theorem dX1_init_33 : decode cX1_init 33 = .ok (.bipush 13, 2) := by decide +kernel
theorem dX1_init_35 : decode cX1_init 35 = .ok (.multianewarray 25 2, 4) := by decide +kernel
theorem dX1_init_39 : decode cX1_init 39 = .ok (.putfield 27, 3) := by decide +kernel
theorem dX1_init_42 : decode cX1_init 42 = .ok (.aload_n 0, 1) := by decide +kernel
theorem dX1_init_43 : decode cX1_init 43 = .ok (.bipush 12, 2) := by decide +kernel
theorem dX1_init_45 : decode cX1_init 45 = .ok (.newarray .int, 2) := by decide +kernel
theorem dX1_init_47 : decode cX1_init 47 = .ok (.putfield 30, 3) := by decide +kernel
theorem dX1_init_50 : decode cX1_init 50 = .ok (.aload_n 0, 1) := by decide +kernel
theorem dX1_init_51 : decode cX1_init 51 = .ok (.iconst 0, 1) := by decide +kernel
theorem dX1_init_52 : decode cX1_init 52 = .ok (.putfield 33, 3) := by decide +kernel
theorem dX1_init_55 : decode cX1_init 55 = .ok (.return_, 1) := by decide +kernel
theorem dX3_init_0 : decode cX3_init 0 = .ok (.aload_n 0, 1) := by decide +kernel
theorem dX3_init_1 : decode cX3_init 1 = .ok (.invokespecial 3, 3) := by decide +kernel
theorem dX3_init_4 : decode cX3_init 4 = .ok (.aload_n 0, 1) := by decide +kernel
theorem dX3_init_5 : decode cX3_init 5 = .ok (.new 9, 3) := by decide +kernel
theorem dX3_init_8 : decode cX3_init 8 = .ok (.dup, 1) := by decide +kernel
theorem dX3_init_9 : decode cX3_init 9 = .ok (.invokespecial 11, 3) := by decide +kernel
theorem dX3_init_12 : decode cX3_init 12 = .ok (.putfield 12, 3) := by decide +kernel
theorem dX3_init_15 : decode cX3_init 15 = .ok (.aload_n 0, 1) := by decide +kernel
theorem dX3_init_16 : decode cX3_init 16 = .ok (.new 9, 3) := by decide +kernel
theorem dX3_init_19 : decode cX3_init 19 = .ok (.dup, 1) := by decide +kernel
theorem dX3_init_20 : decode cX3_init 20 = .ok (.invokespecial 11, 3) := by decide +kernel
theorem dX3_init_23 : decode cX3_init 23 = .ok (.putfield 18, 3) := by decide +kernel
theorem dX3_init_26 : decode cX3_init 26 = .ok (.aload_n 0, 1) := by decide +kernel
theorem dX3_init_27 : decode cX3_init 27 = .ok (.lconst 0, 1) := by decide +kernel
theorem dX3_init_28 : decode cX3_init 28 = .ok (.putfield 23, 3) := by decide +kernel
theorem dX3_init_31 : decode cX3_init 31 = .ok (.aload_n 0, 1) := by decide +kernel
theorem dX3_init_32 : decode cX3_init 32 = .ok (.iconst 0, 1) := by decide +kernel
theorem dX3_init_33 : decode cX3_init 33 = .ok (.putfield 27, 3) := by decide +kernel
theorem dX3_init_36 : decode cX3_init 36 = .ok (.aload_n 0, 1) := by decide +kernel
theorem dX3_init_37 : decode cX3_init 37 = .ok (.iconst 0, 1) := by decide +kernel
theorem dX3_init_38 : decode cX3_init 38 = .ok (.putfield 31, 3) := by decide +kernel
theorem dX3_init_41 : decode cX3_init 41 = .ok (.return_, 1) := by decide +kernel
theorem dX5_add_0 : decode cX5_add 0 = .ok (.iload_n 1, 1) := by decide +kernel
theorem dX5_add_1 : decode cX5_add 1 = .ok (.invokestatic 41, 3) := by decide +kernel
theorem dX5_add_4 : decode cX5_add 4 = .ok (.ifCond .eq 10, 3) := by decide +kernel
theorem dX5_add_7 : decode cX5_add 7 = .ok (.iload_n 2, 1) := by decide +kernel
theorem dX5_add_8 : decode cX5_add 8 = .ok (.invokestatic 45, 3) := by decide +kernel
theorem dX5_add_11 : decode cX5_add 11 = .ok (.ifCond .ne 5, 3) := by decide +kernel
theorem dX5_add_14 : decode cX5_add 14 = .ok (.iconst 0, 1) := by decide +kernel
theorem dX5_add_15 : decode cX5_add 15 = .ok (.ireturn, 1) := by decide +kernel
theorem dX5_add_16 : decode cX5_add 16 = .ok (.aload_n 0, 1) := by decide +kernel
theorem dX5_add_17 : decode cX5_add 17 = .ok (.iload_n 1, 1) := by decide +kernel
theorem dX5_add_18 : decode cX5_add 18 = .ok (.iload_n 2, 1) := by decide +kernel
theorem dX5_add_19 : decode cX5_add 19 = .ok (.invokevirtual 48, 3) := by decide +kernel
theorem dX5_add_22 : decode cX5_add 22 = .ok (.astore 5, 2) := by decide +kernel
theorem dX5_add_24 : decode cX5_add 24 = .ok (.aload 5, 2) := by decide +kernel
theorem dX5_add_26 : decode cX5_add 26 = .ok (.invokevirtual 52, 3) := by decide +kernel
theorem dX5_add_29 : decode cX5_add 29 = .ok (.ifCond .ne 10, 3) := by decide +kernel
theorem dX5_add_32 : decode cX5_add 32 = .ok (.lload_n 3, 1) := by decide +kernel
theorem dX5_add_33 : decode cX5_add 33 = .ok (.invokestatic 56, 3) := by decide +kernel
theorem dX5_add_36 : decode cX5_add 36 = .ok (.ifCond .ne 5, 3) := by decide +kernel
theorem dX5_add_39 : decode cX5_add 39 = .ok (.iconst 0, 1) := by decide +kernel
theorem dX5_add_40 : decode cX5_add 40 = .ok (.ireturn, 1) := by decide +kernel
theorem dX5_add_41 : decode cX5_add 41 = .ok (.aload 5, 2) := by decide +kernel
theorem dX5_add_43 : decode cX5_add 43 = .ok (.bipush (-2), 2) := by decide +kernel
theorem dX5_add_45 : decode cX5_add 45 = .ok (.lload_n 3, 1) := by decide +kernel
theorem dX5_add_46 : decode cX5_add 46 = .ok (.invokevirtual 62, 3) := by decide +kernel
theorem dX5_add_49 : decode cX5_add 49 = .ok (.iconst 1, 1) := by decide +kernel
theorem dX5_add_50 : decode cX5_add 50 = .ok (.ireturn, 1) := by decide +kernel
theorem dX5_isClient_0 : decode cX5_isClient 0 = .ok (.iload_n 0, 1) := by decide +kernel
theorem dX5_isClient_1 : decode cX5_isClient 1 = .ok (.ifCond .lt 12, 3) := by decide +kernel
theorem dX5_isClient_4 : decode cX5_isClient 4 = .ok (.iload_n 0, 1) := by decide +kernel
theorem dX5_isClient_5 : decode cX5_isClient 5 = .ok (.iconst 3, 1) := by decide +kernel
theorem dX5_isClient_6 : decode cX5_isClient 6 = .ok (.if_icmp .ge 7, 3) := by decide +kernel
theorem dX5_isClient_9 : decode cX5_isClient 9 = .ok (.iconst 1, 1) := by decide +kernel
theorem dX5_isClient_10 : decode cX5_isClient 10 = .ok (.goto 4, 3) := by decide +kernel
theorem dX5_isClient_13 : decode cX5_isClient 13 = .ok (.iconst 0, 1) := by decide +kernel
theorem dX5_isClient_14 : decode cX5_isClient 14 = .ok (.ireturn, 1) := by decide +kernel
theorem dX5_isFile_0 : decode cX5_isFile 0 = .ok (.iload_n 0, 1) := by decide +kernel
theorem dX5_isFile_1 : decode cX5_isFile 1 = .ok (.ifCond .lt 12, 3) := by decide +kernel
theorem dX5_isFile_4 : decode cX5_isFile 4 = .ok (.iload_n 0, 1) := by decide +kernel
theorem dX5_isFile_5 : decode cX5_isFile 5 = .ok (.iconst 4, 1) := by decide +kernel
theorem dX5_isFile_6 : decode cX5_isFile 6 = .ok (.if_icmp .ge 7, 3) := by decide +kernel
theorem dX5_isFile_9 : decode cX5_isFile 9 = .ok (.iconst 1, 1) := by decide +kernel
theorem dX5_isFile_10 : decode cX5_isFile 10 = .ok (.goto 4, 3) := by decide +kernel
theorem dX5_isFile_13 : decode cX5_isFile 13 = .ok (.iconst 0, 1) := by decide +kernel
theorem dX5_isFile_14 : decode cX5_isFile 14 = .ok (.ireturn, 1) := by decide +kernel
theorem dX5_copyOf_0 : decode cX5_copyOf 0 = .ok (.aload_n 0, 1) := by decide +kernel
theorem dX5_copyOf_1 : decode cX5_copyOf 1 = .ok (.getfield 18, 3) := by decide +kernel
theorem dX5_copyOf_4 : decode cX5_copyOf 4 = .ok (.iload_n 1, 1) := by decide +kernel
theorem dX5_copyOf_5 : decode cX5_copyOf 5 = .ok (.iconst 4, 1) := by decide +kernel
theorem dX5_copyOf_6 : decode cX5_copyOf 6 = .ok (.imul, 1) := by decide +kernel
theorem dX5_copyOf_7 : decode cX5_copyOf 7 = .ok (.iload_n 2, 1) := by decide +kernel
theorem dX5_copyOf_8 : decode cX5_copyOf 8 = .ok (.iadd, 1) := by decide +kernel
theorem dX5_copyOf_9 : decode cX5_copyOf 9 = .ok (.aaload, 1) := by decide +kernel
theorem dX5_copyOf_10 : decode cX5_copyOf 10 = .ok (.areturn, 1) := by decide +kernel
theorem dX0_hasEntry_0 : decode cX0_hasEntry 0 = .ok (.aload_n 0, 1) := by decide +kernel
theorem dX0_hasEntry_1 : decode cX0_hasEntry 1 = .ok (.getfield 9, 3) := by decide +kernel
theorem dX0_hasEntry_4 : decode cX0_hasEntry 4 = .ok (.iconst (-1), 1) := by decide +kernel
theorem dX0_hasEntry_5 : decode cX0_hasEntry 5 = .ok (.if_icmp .eq 7, 3) := by decide +kernel
theorem dX0_hasEntry_8 : decode cX0_hasEntry 8 = .ok (.iconst 1, 1) := by decide +kernel
theorem dX0_hasEntry_9 : decode cX0_hasEntry 9 = .ok (.goto 4, 3) := by decide +kernel
theorem dX0_hasEntry_12 : decode cX0_hasEntry 12 = .ok (.iconst 0, 1) := by decide +kernel
theorem dX0_hasEntry_13 : decode cX0_hasEntry 13 = .ok (.ireturn, 1) := by decide +kernel
theorem dX4_isClean_0 : decode cX4_isClean 0 = .ok (.lload_n 0, 1) := by decide +kernel
theorem dX4_isClean_1 : decode cX4_isClean 1 = .ok (.invokestatic 15, 3) := by decide +kernel
theorem dX4_isClean_4 : decode cX4_isClean 4 = .ok (.ifCond .eq 14, 3) := by decide +kernel
theorem dX4_isClean_7 : decode cX4_isClean 7 = .ok (.lload_n 0, 1) := by decide +kernel
theorem dX4_isClean_8 : decode cX4_isClean 8 = .ok (.invokestatic 19, 3) := by decide +kernel
theorem dX4_isClean_11 : decode cX4_isClean 11 = .ok (.ifCond .ne 7, 3) := by decide +kernel
theorem dX4_isClean_14 : decode cX4_isClean 14 = .ok (.iconst 1, 1) := by decide +kernel
theorem dX4_isClean_15 : decode cX4_isClean 15 = .ok (.goto 4, 3) := by decide +kernel
theorem dX4_isClean_18 : decode cX4_isClean 18 = .ok (.iconst 0, 1) := by decide +kernel
theorem dX4_isClean_19 : decode cX4_isClean 19 = .ok (.ireturn, 1) := by decide +kernel
theorem dX4_isText_0 : decode cX4_isText 0 = .ok (.lload_n 0, 1) := by decide +kernel
theorem dX4_isText_1 : decode cX4_isText 1 = .ok (.lconst 0, 1) := by decide +kernel
theorem dX4_isText_2 : decode cX4_isText 2 = .ok (.lcmp, 1) := by decide +kernel
theorem dX4_isText_3 : decode cX4_isText 3 = .ok (.ifCond .ge 5, 3) := by decide +kernel
theorem dX4_isText_6 : decode cX4_isText 6 = .ok (.iconst 0, 1) := by decide +kernel
theorem dX4_isText_7 : decode cX4_isText 7 = .ok (.ireturn, 1) := by decide +kernel
theorem dX4_isText_8 : decode cX4_isText 8 = .ok (.lload_n 0, 1) := by decide +kernel
theorem dX4_isText_9 : decode cX4_isText 9 = .ok (.lstore_n 2, 1) := by decide +kernel
theorem dX4_isText_10 : decode cX4_isText 10 = .ok (.iconst 0, 1) := by decide +kernel
theorem dX4_isText_11 : decode cX4_isText 11 = .ok (.istore 4, 2) := by decide +kernel
theorem dX4_isText_13 : decode cX4_isText 13 = .ok (.iload 4, 2) := by decide +kernel
theorem dX4_isText_15 : decode cX4_isText 15 = .ok (.bipush 12, 2) := by decide +kernel
theorem dX4_isText_17 : decode cX4_isText 17 = .ok (.if_icmp .ge 46, 3) := by decide +kernel
theorem dX4_isText_20 : decode cX4_isText 20 = .ok (.lload_n 2, 1) := by decide +kernel
theorem dX4_isText_21 : decode cX4_isText 21 = .ok (.lconst 0, 1) := by decide +kernel
theorem dX4_isText_22 : decode cX4_isText 22 = .ok (.lcmp, 1) := by decide +kernel
theorem dX4_isText_23 : decode cX4_isText 23 = .ok (.ifCond .le 40, 3) := by decide +kernel
theorem dX4_isText_26 : decode cX4_isText 26 = .ok (.lload_n 2, 1) := by decide +kernel
theorem dX4_isText_27 : decode cX4_isText 27 = .ok (.ldc2_w 11, 3) := by decide +kernel
theorem dX4_isText_30 : decode cX4_isText 30 = .ok (.lrem, 1) := by decide +kernel
theorem dX4_isText_31 : decode cX4_isText 31 = .ok (.lstore 5, 2) := by decide +kernel
theorem dX4_isText_33 : decode cX4_isText 33 = .ok (.lload 5, 2) := by decide +kernel
theorem dX4_isText_35 : decode cX4_isText 35 = .ok (.lconst 1, 1) := by decide +kernel
theorem dX4_isText_36 : decode cX4_isText 36 = .ok (.lcmp, 1) := by decide +kernel
theorem dX4_isText_37 : decode cX4_isText 37 = .ok (.ifCond .lt 12, 3) := by decide +kernel
theorem dX4_isText_40 : decode cX4_isText 40 = .ok (.lload 5, 2) := by decide +kernel
theorem dX4_isText_42 : decode cX4_isText 42 = .ok (.ldc2_w 13, 3) := by decide +kernel
theorem dX4_isText_45 : decode cX4_isText 45 = .ok (.lcmp, 1) := by decide +kernel
theorem dX4_isText_46 : decode cX4_isText 46 = .ok (.ifCond .le 5, 3) := by decide +kernel
theorem dX4_isText_49 : decode cX4_isText 49 = .ok (.iconst 0, 1) := by decide +kernel
theorem dX4_isText_50 : decode cX4_isText 50 = .ok (.ireturn, 1) := by decide +kernel
theorem dX4_isText_51 : decode cX4_isText 51 = .ok (.lload_n 2, 1) := by decide +kernel
theorem dX4_isText_52 : decode cX4_isText 52 = .ok (.ldc2_w 11, 3) := by decide +kernel
theorem dX4_isText_55 : decode cX4_isText 55 = .ok (.ldiv, 1) := by decide +kernel
theorem dX4_isText_56 : decode cX4_isText 56 = .ok (.lstore_n 2, 1) := by decide +kernel
theorem dX4_isText_57 : decode cX4_isText 57 = .ok (.iinc 4 1, 3) := by decide +kernel
theorem dX4_isText_60 : decode cX4_isText 60 = .ok (.goto (-47), 3) := by decide +kernel
theorem dX4_isText_63 : decode cX4_isText 63 = .ok (.lload_n 2, 1) := by decide +kernel
theorem dX4_isText_64 : decode cX4_isText 64 = .ok (.lconst 0, 1) := by decide +kernel
theorem dX4_isText_65 : decode cX4_isText 65 = .ok (.lcmp, 1) := by decide +kernel
theorem dX4_isText_66 : decode cX4_isText 66 = .ok (.ifCond .ne 7, 3) := by decide +kernel
theorem dX4_isText_69 : decode cX4_isText 69 = .ok (.iconst 1, 1) := by decide +kernel
theorem dX4_isText_70 : decode cX4_isText 70 = .ok (.goto 4, 3) := by decide +kernel
theorem dX4_isText_73 : decode cX4_isText 73 = .ok (.iconst 0, 1) := by decide +kernel
theorem dX4_isText_74 : decode cX4_isText 74 = .ok (.ireturn, 1) := by decide +kernel
theorem dX4_hasMarks_0 : decode cX4_hasMarks 0 = .ok (.lload_n 0, 1) := by decide +kernel
theorem dX4_hasMarks_1 : decode cX4_hasMarks 1 = .ok (.lstore_n 2, 1) := by decide +kernel
theorem dX4_hasMarks_2 : decode cX4_hasMarks 2 = .ok (.iconst 0, 1) := by decide +kernel
theorem dX4_hasMarks_3 : decode cX4_hasMarks 3 = .ok (.istore 4, 2) := by decide +kernel
theorem dX4_hasMarks_5 : decode cX4_hasMarks 5 = .ok (.iload 4, 2) := by decide +kernel
theorem dX4_hasMarks_7 : decode cX4_hasMarks 7 = .ok (.bipush 12, 2) := by decide +kernel
theorem dX4_hasMarks_9 : decode cX4_hasMarks 9 = .ok (.if_icmp .ge 29, 3) := by decide +kernel
theorem dX4_hasMarks_12 : decode cX4_hasMarks 12 = .ok (.lload_n 2, 1) := by decide +kernel
theorem dX4_hasMarks_13 : decode cX4_hasMarks 13 = .ok (.ldc2_w 11, 3) := by decide +kernel
theorem dX4_hasMarks_16 : decode cX4_hasMarks 16 = .ok (.lrem, 1) := by decide +kernel
theorem dX4_hasMarks_17 : decode cX4_hasMarks 17 = .ok (.ldc2_w 22, 3) := by decide +kernel
theorem dX4_hasMarks_20 : decode cX4_hasMarks 20 = .ok (.lcmp, 1) := by decide +kernel
theorem dX4_hasMarks_21 : decode cX4_hasMarks 21 = .ok (.ifCond .lt 5, 3) := by decide +kernel
theorem dX4_hasMarks_24 : decode cX4_hasMarks 24 = .ok (.iconst 1, 1) := by decide +kernel
theorem dX4_hasMarks_25 : decode cX4_hasMarks 25 = .ok (.ireturn, 1) := by decide +kernel
theorem dX4_hasMarks_26 : decode cX4_hasMarks 26 = .ok (.lload_n 2, 1) := by decide +kernel
theorem dX4_hasMarks_27 : decode cX4_hasMarks 27 = .ok (.ldc2_w 11, 3) := by decide +kernel
theorem dX4_hasMarks_30 : decode cX4_hasMarks 30 = .ok (.ldiv, 1) := by decide +kernel
theorem dX4_hasMarks_31 : decode cX4_hasMarks 31 = .ok (.lstore_n 2, 1) := by decide +kernel
theorem dX4_hasMarks_32 : decode cX4_hasMarks 32 = .ok (.iinc 4 1, 3) := by decide +kernel
theorem dX4_hasMarks_35 : decode cX4_hasMarks 35 = .ok (.goto (-30), 3) := by decide +kernel
theorem dX4_hasMarks_38 : decode cX4_hasMarks 38 = .ok (.iconst 0, 1) := by decide +kernel
theorem dX4_hasMarks_39 : decode cX4_hasMarks 39 = .ok (.ireturn, 1) := by decide +kernel
theorem dX0_hold_0 : decode cX0_hold 0 = .ok (.aload_n 0, 1) := by decide +kernel
theorem dX0_hold_1 : decode cX0_hold 1 = .ok (.iload_n 1, 1) := by decide +kernel
theorem dX0_hold_2 : decode cX0_hold 2 = .ok (.putfield 9, 3) := by decide +kernel
theorem dX0_hold_5 : decode cX0_hold 5 = .ok (.aload_n 0, 1) := by decide +kernel
theorem dX0_hold_6 : decode cX0_hold 6 = .ok (.iconst 0, 1) := by decide +kernel
theorem dX0_hold_7 : decode cX0_hold 7 = .ok (.putfield 15, 3) := by decide +kernel
theorem dX0_hold_10 : decode cX0_hold 10 = .ok (.aload_n 0, 1) := by decide +kernel
theorem dX0_hold_11 : decode cX0_hold 11 = .ok (.lload_n 2, 1) := by decide +kernel
theorem dX0_hold_12 : decode cX0_hold 12 = .ok (.putfield 21, 3) := by decide +kernel
theorem dX0_hold_15 : decode cX0_hold 15 = .ok (.return_, 1) := by decide +kernel
theorem dX5_edit_0 : decode cX5_edit 0 = .ok (.iload_n 1, 1) := by decide +kernel
theorem dX5_edit_1 : decode cX5_edit 1 = .ok (.invokestatic 41, 3) := by decide +kernel
theorem dX5_edit_4 : decode cX5_edit 4 = .ok (.ifCond .eq 10, 3) := by decide +kernel
theorem dX5_edit_7 : decode cX5_edit 7 = .ok (.iload_n 2, 1) := by decide +kernel
theorem dX5_edit_8 : decode cX5_edit 8 = .ok (.invokestatic 45, 3) := by decide +kernel
theorem dX5_edit_11 : decode cX5_edit 11 = .ok (.ifCond .ne 5, 3) := by decide +kernel
theorem dX5_edit_14 : decode cX5_edit 14 = .ok (.iconst 0, 1) := by decide +kernel
theorem dX5_edit_15 : decode cX5_edit 15 = .ok (.ireturn, 1) := by decide +kernel
theorem dX5_edit_16 : decode cX5_edit 16 = .ok (.aload_n 0, 1) := by decide +kernel
theorem dX5_edit_17 : decode cX5_edit 17 = .ok (.iload_n 1, 1) := by decide +kernel
theorem dX5_edit_18 : decode cX5_edit 18 = .ok (.iload_n 2, 1) := by decide +kernel
theorem dX5_edit_19 : decode cX5_edit 19 = .ok (.invokevirtual 48, 3) := by decide +kernel
theorem dX5_edit_22 : decode cX5_edit 22 = .ok (.astore 5, 2) := by decide +kernel
theorem dX5_edit_24 : decode cX5_edit 24 = .ok (.aload 5, 2) := by decide +kernel
theorem dX5_edit_26 : decode cX5_edit 26 = .ok (.invokevirtual 66, 3) := by decide +kernel
theorem dX5_edit_29 : decode cX5_edit 29 = .ok (.ifCond .eq 10, 3) := by decide +kernel
theorem dX5_edit_32 : decode cX5_edit 32 = .ok (.lload_n 3, 1) := by decide +kernel
theorem dX5_edit_33 : decode cX5_edit 33 = .ok (.invokestatic 69, 3) := by decide +kernel
theorem dX5_edit_36 : decode cX5_edit 36 = .ok (.ifCond .ne 5, 3) := by decide +kernel
theorem dX5_edit_39 : decode cX5_edit 39 = .ok (.iconst 0, 1) := by decide +kernel
theorem dX5_edit_40 : decode cX5_edit 40 = .ok (.ireturn, 1) := by decide +kernel
theorem dX5_edit_41 : decode cX5_edit 41 = .ok (.aload 5, 2) := by decide +kernel
theorem dX5_edit_43 : decode cX5_edit 43 = .ok (.lload_n 3, 1) := by decide +kernel
theorem dX5_edit_44 : decode cX5_edit 44 = .ok (.putfield 72, 3) := by decide +kernel
theorem dX5_edit_47 : decode cX5_edit 47 = .ok (.iconst 1, 1) := by decide +kernel
theorem dX5_edit_48 : decode cX5_edit 48 = .ok (.ireturn, 1) := by decide +kernel
theorem dX0_hasText_0 : decode cX0_hasText 0 = .ok (.aload_n 0, 1) := by decide +kernel
theorem dX0_hasText_1 : decode cX0_hasText 1 = .ok (.invokevirtual 28, 3) := by decide +kernel
theorem dX0_hasText_4 : decode cX0_hasText 4 = .ok (.ifCond .eq 14, 3) := by decide +kernel
theorem dX0_hasText_7 : decode cX0_hasText 7 = .ok (.aload_n 0, 1) := by decide +kernel
theorem dX0_hasText_8 : decode cX0_hasText 8 = .ok (.getfield 15, 3) := by decide +kernel
theorem dX0_hasText_11 : decode cX0_hasText 11 = .ok (.ifCond .ne 7, 3) := by decide +kernel
theorem dX0_hasText_14 : decode cX0_hasText 14 = .ok (.iconst 1, 1) := by decide +kernel
theorem dX0_hasText_15 : decode cX0_hasText 15 = .ok (.goto 4, 3) := by decide +kernel
theorem dX0_hasText_18 : decode cX0_hasText 18 = .ok (.iconst 0, 1) := by decide +kernel
theorem dX0_hasText_19 : decode cX0_hasText 19 = .ok (.ireturn, 1) := by decide +kernel
theorem dX5_remove_0 : decode cX5_remove 0 = .ok (.iload_n 1, 1) := by decide +kernel
theorem dX5_remove_1 : decode cX5_remove 1 = .ok (.invokestatic 41, 3) := by decide +kernel
theorem dX5_remove_4 : decode cX5_remove 4 = .ok (.ifCond .eq 10, 3) := by decide +kernel
theorem dX5_remove_7 : decode cX5_remove 7 = .ok (.iload_n 2, 1) := by decide +kernel
theorem dX5_remove_8 : decode cX5_remove 8 = .ok (.invokestatic 45, 3) := by decide +kernel
theorem dX5_remove_11 : decode cX5_remove 11 = .ok (.ifCond .ne 5, 3) := by decide +kernel
theorem dX5_remove_14 : decode cX5_remove 14 = .ok (.iconst 0, 1) := by decide +kernel
theorem dX5_remove_15 : decode cX5_remove 15 = .ok (.ireturn, 1) := by decide +kernel
theorem dX5_remove_16 : decode cX5_remove 16 = .ok (.aload_n 0, 1) := by decide +kernel
theorem dX5_remove_17 : decode cX5_remove 17 = .ok (.iload_n 1, 1) := by decide +kernel
theorem dX5_remove_18 : decode cX5_remove 18 = .ok (.iload_n 2, 1) := by decide +kernel
theorem dX5_remove_19 : decode cX5_remove 19 = .ok (.invokevirtual 48, 3) := by decide +kernel
theorem dX5_remove_22 : decode cX5_remove 22 = .ok (.astore_n 3, 1) := by decide +kernel
theorem dX5_remove_23 : decode cX5_remove 23 = .ok (.aload_n 3, 1) := by decide +kernel
theorem dX5_remove_24 : decode cX5_remove 24 = .ok (.invokevirtual 66, 3) := by decide +kernel
theorem dX5_remove_27 : decode cX5_remove 27 = .ok (.ifCond .ne 5, 3) := by decide +kernel
theorem dX5_remove_30 : decode cX5_remove 30 = .ok (.iconst 0, 1) := by decide +kernel
theorem dX5_remove_31 : decode cX5_remove 31 = .ok (.ireturn, 1) := by decide +kernel
theorem dX5_remove_32 : decode cX5_remove 32 = .ok (.aload_n 3, 1) := by decide +kernel
theorem dX5_remove_33 : decode cX5_remove 33 = .ok (.invokevirtual 76, 3) := by decide +kernel
theorem dX5_remove_36 : decode cX5_remove 36 = .ok (.ifCond .eq 10, 3) := by decide +kernel
theorem dX5_remove_39 : decode cX5_remove 39 = .ok (.aload_n 3, 1) := by decide +kernel
theorem dX5_remove_40 : decode cX5_remove 40 = .ok (.invokevirtual 79, 3) := by decide +kernel
theorem dX5_remove_43 : decode cX5_remove 43 = .ok (.goto 7, 3) := by decide +kernel
theorem dX5_remove_46 : decode cX5_remove 46 = .ok (.aload_n 3, 1) := by decide +kernel
theorem dX5_remove_47 : decode cX5_remove 47 = .ok (.invokevirtual 82, 3) := by decide +kernel
theorem dX5_remove_50 : decode cX5_remove 50 = .ok (.iconst 1, 1) := by decide +kernel
theorem dX5_remove_51 : decode cX5_remove 51 = .ok (.ireturn, 1) := by decide +kernel
theorem dX0_hasRevision_0 : decode cX0_hasRevision 0 = .ok (.aload_n 0, 1) := by decide +kernel
theorem dX0_hasRevision_1 : decode cX0_hasRevision 1 = .ok (.getfield 9, 3) := by decide +kernel
theorem dX0_hasRevision_4 : decode cX0_hasRevision 4 = .ok (.ifCond .lt 7, 3) := by decide +kernel
theorem dX0_hasRevision_7 : decode cX0_hasRevision 7 = .ok (.iconst 1, 1) := by decide +kernel
theorem dX0_hasRevision_8 : decode cX0_hasRevision 8 = .ok (.goto 4, 3) := by decide +kernel
theorem dX0_hasRevision_11 : decode cX0_hasRevision 11 = .ok (.iconst 0, 1) := by decide +kernel
theorem dX0_hasRevision_12 : decode cX0_hasRevision 12 = .ok (.ireturn, 1) := by decide +kernel
theorem dX0_markGone_0 : decode cX0_markGone 0 = .ok (.aload_n 0, 1) := by decide +kernel
theorem dX0_markGone_1 : decode cX0_markGone 1 = .ok (.iconst 1, 1) := by decide +kernel
theorem dX0_markGone_2 : decode cX0_markGone 2 = .ok (.putfield 15, 3) := by decide +kernel
theorem dX0_markGone_5 : decode cX0_markGone 5 = .ok (.return_, 1) := by decide +kernel
theorem dX0_drop_0 : decode cX0_drop 0 = .ok (.aload_n 0, 1) := by decide +kernel
theorem dX0_drop_1 : decode cX0_drop 1 = .ok (.iconst (-1), 1) := by decide +kernel
theorem dX0_drop_2 : decode cX0_drop 2 = .ok (.putfield 9, 3) := by decide +kernel
theorem dX0_drop_5 : decode cX0_drop 5 = .ok (.aload_n 0, 1) := by decide +kernel
theorem dX0_drop_6 : decode cX0_drop 6 = .ok (.iconst 0, 1) := by decide +kernel
theorem dX0_drop_7 : decode cX0_drop 7 = .ok (.putfield 15, 3) := by decide +kernel
theorem dX0_drop_10 : decode cX0_drop 10 = .ok (.return_, 1) := by decide +kernel
theorem dX5_commit_0 : decode cX5_commit 0 = .ok (.iload_n 1, 1) := by decide +kernel
theorem dX5_commit_1 : decode cX5_commit 1 = .ok (.invokestatic 41, 3) := by decide +kernel
theorem dX5_commit_4 : decode cX5_commit 4 = .ok (.ifCond .eq 10, 3) := by decide +kernel
theorem dX5_commit_7 : decode cX5_commit 7 = .ok (.iload_n 2, 1) := by decide +kernel
theorem dX5_commit_8 : decode cX5_commit 8 = .ok (.invokestatic 45, 3) := by decide +kernel
theorem dX5_commit_11 : decode cX5_commit 11 = .ok (.ifCond .ne 5, 3) := by decide +kernel
theorem dX5_commit_14 : decode cX5_commit 14 = .ok (.iconst (-1), 1) := by decide +kernel
theorem dX5_commit_15 : decode cX5_commit 15 = .ok (.ireturn, 1) := by decide +kernel
theorem dX5_commit_16 : decode cX5_commit 16 = .ok (.aload_n 0, 1) := by decide +kernel
theorem dX5_commit_17 : decode cX5_commit 17 = .ok (.iload_n 1, 1) := by decide +kernel
theorem dX5_commit_18 : decode cX5_commit 18 = .ok (.iload_n 2, 1) := by decide +kernel
theorem dX5_commit_19 : decode cX5_commit 19 = .ok (.invokevirtual 48, 3) := by decide +kernel
theorem dX5_commit_22 : decode cX5_commit 22 = .ok (.astore_n 3, 1) := by decide +kernel
theorem dX5_commit_23 : decode cX5_commit 23 = .ok (.aload_n 0, 1) := by decide +kernel
theorem dX5_commit_24 : decode cX5_commit 24 = .ok (.getfield 11, 3) := by decide +kernel
theorem dX5_commit_27 : decode cX5_commit 27 = .ok (.iload_n 2, 1) := by decide +kernel
theorem dX5_commit_28 : decode cX5_commit 28 = .ok (.aaload, 1) := by decide +kernel
theorem dX5_commit_29 : decode cX5_commit 29 = .ok (.astore 4, 2) := by decide +kernel
theorem dX5_commit_31 : decode cX5_commit 31 = .ok (.aload_n 0, 1) := by decide +kernel
theorem dX5_commit_32 : decode cX5_commit 32 = .ok (.aload_n 3, 1) := by decide +kernel
theorem dX5_commit_33 : decode cX5_commit 33 = .ok (.aload 4, 2) := by decide +kernel
theorem dX5_commit_35 : decode cX5_commit 35 = .ok (.invokevirtual 85, 3) := by decide +kernel
theorem dX5_commit_38 : decode cX5_commit 38 = .ok (.istore 5, 2) := by decide +kernel
theorem dX5_commit_40 : decode cX5_commit 40 = .ok (.iload 5, 2) := by decide +kernel
theorem dX5_commit_42 : decode cX5_commit 42 = .ok (.ifCond .eq 6, 3) := by decide +kernel
theorem dX5_commit_45 : decode cX5_commit 45 = .ok (.iload 5, 2) := by decide +kernel
theorem dX5_commit_47 : decode cX5_commit 47 = .ok (.ireturn, 1) := by decide +kernel
theorem dX5_commit_48 : decode cX5_commit 48 = .ok (.aload_n 3, 1) := by decide +kernel
theorem dX5_commit_49 : decode cX5_commit 49 = .ok (.getfield 89, 3) := by decide +kernel
theorem dX5_commit_52 : decode cX5_commit 52 = .ok (.ifCond .eq 12, 3) := by decide +kernel
theorem dX5_commit_55 : decode cX5_commit 55 = .ok (.aload_n 3, 1) := by decide +kernel
theorem dX5_commit_56 : decode cX5_commit 56 = .ok (.aload 4, 2) := by decide +kernel
theorem dX5_commit_58 : decode cX5_commit 58 = .ok (.invokestatic 93, 3) := by decide +kernel
theorem dX5_commit_61 : decode cX5_commit 61 = .ok (.goto 9, 3) := by decide +kernel
theorem dX5_commit_64 : decode cX5_commit 64 = .ok (.aload_n 3, 1) := by decide +kernel
theorem dX5_commit_65 : decode cX5_commit 65 = .ok (.aload 4, 2) := by decide +kernel
theorem dX5_commit_67 : decode cX5_commit 67 = .ok (.invokestatic 96, 3) := by decide +kernel
theorem dX5_commit_70 : decode cX5_commit 70 = .ok (.ireturn, 1) := by decide +kernel
theorem dX5_commitRefusal_0 : decode cX5_commitRefusal 0 = .ok (.aload_n 1, 1) := by decide +kernel
theorem dX5_commitRefusal_1 : decode cX5_commitRefusal 1 = .ok (.invokevirtual 52, 3) := by decide +kernel
theorem dX5_commitRefusal_4 : decode cX5_commitRefusal 4 = .ok (.ifCond .ne 5, 3) := by decide +kernel
theorem dX5_commitRefusal_7 : decode cX5_commitRefusal 7 = .ok (.iconst (-1), 1) := by decide +kernel
theorem dX5_commitRefusal_8 : decode cX5_commitRefusal 8 = .ok (.ireturn, 1) := by decide +kernel
theorem dX5_commitRefusal_9 : decode cX5_commitRefusal 9 = .ok (.aload_n 1, 1) := by decide +kernel
theorem dX5_commitRefusal_10 : decode cX5_commitRefusal 10 = .ok (.getfield 114, 3) := by decide +kernel
theorem dX5_commitRefusal_13 : decode cX5_commitRefusal 13 = .ok (.iconst (-1), 1) := by decide +kernel
theorem dX5_commitRefusal_14 : decode cX5_commitRefusal 14 = .ok (.if_icmp .eq 19, 3) := by decide +kernel
theorem dX5_commitRefusal_17 : decode cX5_commitRefusal 17 = .ok (.aload_n 0, 1) := by decide +kernel
theorem dX5_commitRefusal_18 : decode cX5_commitRefusal 18 = .ok (.getfield 23, 3) := by decide +kernel
theorem dX5_commitRefusal_21 : decode cX5_commitRefusal 21 = .ok (.aload_n 1, 1) := by decide +kernel
theorem dX5_commitRefusal_22 : decode cX5_commitRefusal 22 = .ok (.getfield 114, 3) := by decide +kernel
theorem dX5_commitRefusal_25 : decode cX5_commitRefusal 25 = .ok (.iaload, 1) := by decide +kernel
theorem dX5_commitRefusal_26 : decode cX5_commitRefusal 26 = .ok (.iconst 1, 1) := by decide +kernel
theorem dX5_commitRefusal_27 : decode cX5_commitRefusal 27 = .ok (.if_icmp .ne 6, 3) := by decide +kernel
theorem dX5_commitRefusal_30 : decode cX5_commitRefusal 30 = .ok (.bipush (-3), 2) := by decide +kernel
theorem dX5_commitRefusal_32 : decode cX5_commitRefusal 32 = .ok (.ireturn, 1) := by decide +kernel
theorem dX5_commitRefusal_33 : decode cX5_commitRefusal 33 = .ok (.aload_n 0, 1) := by decide +kernel
theorem dX5_commitRefusal_34 : decode cX5_commitRefusal 34 = .ok (.aload_n 1, 1) := by decide +kernel
theorem dX5_commitRefusal_35 : decode cX5_commitRefusal 35 = .ok (.aload_n 2, 1) := by decide +kernel
theorem dX5_commitRefusal_36 : decode cX5_commitRefusal 36 = .ok (.invokevirtual 189, 3) := by decide +kernel
theorem dX5_commitRefusal_39 : decode cX5_commitRefusal 39 = .ok (.ifCond .eq 6, 3) := by decide +kernel
theorem dX5_commitRefusal_42 : decode cX5_commitRefusal 42 = .ok (.bipush (-4), 2) := by decide +kernel
theorem dX5_commitRefusal_44 : decode cX5_commitRefusal 44 = .ok (.ireturn, 1) := by decide +kernel
theorem dX5_commitRefusal_45 : decode cX5_commitRefusal 45 = .ok (.aload_n 1, 1) := by decide +kernel
theorem dX5_commitRefusal_46 : decode cX5_commitRefusal 46 = .ok (.invokevirtual 76, 3) := by decide +kernel
theorem dX5_commitRefusal_49 : decode cX5_commitRefusal 49 = .ok (.ifCond .eq 21, 3) := by decide +kernel
theorem dX5_commitRefusal_52 : decode cX5_commitRefusal 52 = .ok (.aload_n 1, 1) := by decide +kernel
theorem dX5_commitRefusal_53 : decode cX5_commitRefusal 53 = .ok (.getfield 89, 3) := by decide +kernel
theorem dX5_commitRefusal_56 : decode cX5_commitRefusal 56 = .ok (.ifCond .ne 14, 3) := by decide +kernel
theorem dX5_commitRefusal_59 : decode cX5_commitRefusal 59 = .ok (.aload_n 1, 1) := by decide +kernel
theorem dX5_commitRefusal_60 : decode cX5_commitRefusal 60 = .ok (.aload_n 2, 1) := by decide +kernel
theorem dX5_commitRefusal_61 : decode cX5_commitRefusal 61 = .ok (.invokestatic 193, 3) := by decide +kernel
theorem dX5_commitRefusal_64 : decode cX5_commitRefusal 64 = .ok (.ifCond .ne 6, 3) := by decide +kernel
theorem dX5_commitRefusal_67 : decode cX5_commitRefusal 67 = .ok (.bipush (-5), 2) := by decide +kernel
theorem dX5_commitRefusal_69 : decode cX5_commitRefusal 69 = .ok (.ireturn, 1) := by decide +kernel
theorem dX5_commitRefusal_70 : decode cX5_commitRefusal 70 = .ok (.aload_n 1, 1) := by decide +kernel
theorem dX5_commitRefusal_71 : decode cX5_commitRefusal 71 = .ok (.invokevirtual 66, 3) := by decide +kernel
theorem dX5_commitRefusal_74 : decode cX5_commitRefusal 74 = .ok (.ifCond .eq 16, 3) := by decide +kernel
theorem dX5_commitRefusal_77 : decode cX5_commitRefusal 77 = .ok (.aload_n 1, 1) := by decide +kernel
theorem dX5_commitRefusal_78 : decode cX5_commitRefusal 78 = .ok (.getfield 72, 3) := by decide +kernel
theorem dX5_commitRefusal_81 : decode cX5_commitRefusal 81 = .ok (.invokestatic 196, 3) := by decide +kernel
theorem dX5_commitRefusal_84 : decode cX5_commitRefusal 84 = .ok (.ifCond .eq 6, 3) := by decide +kernel
theorem dX5_commitRefusal_87 : decode cX5_commitRefusal 87 = .ok (.bipush (-6), 2) := by decide +kernel
theorem dX5_commitRefusal_89 : decode cX5_commitRefusal 89 = .ok (.ireturn, 1) := by decide +kernel
theorem dX5_commitRefusal_90 : decode cX5_commitRefusal 90 = .ok (.aload_n 1, 1) := by decide +kernel
theorem dX5_commitRefusal_91 : decode cX5_commitRefusal 91 = .ok (.aload_n 2, 1) := by decide +kernel
theorem dX5_commitRefusal_92 : decode cX5_commitRefusal 92 = .ok (.invokestatic 199, 3) := by decide +kernel
theorem dX5_commitRefusal_95 : decode cX5_commitRefusal 95 = .ok (.ifCond .eq 7, 3) := by decide +kernel
theorem dX5_commitRefusal_98 : decode cX5_commitRefusal 98 = .ok (.iconst 0, 1) := by decide +kernel
theorem dX5_commitRefusal_99 : decode cX5_commitRefusal 99 = .ok (.goto 5, 3) := by decide +kernel
theorem dX5_commitRefusal_102 : decode cX5_commitRefusal 102 = .ok (.bipush (-7), 2) := by decide +kernel
theorem dX5_commitRefusal_104 : decode cX5_commitRefusal 104 = .ok (.ireturn, 1) := by decide +kernel
theorem dX5_isStale_0 : decode cX5_isStale 0 = .ok (.aload_n 0, 1) := by decide +kernel
theorem dX5_isStale_1 : decode cX5_isStale 1 = .ok (.aload_n 2, 1) := by decide +kernel
theorem dX5_isStale_2 : decode cX5_isStale 2 = .ok (.aload_n 1, 1) := by decide +kernel
theorem dX5_isStale_3 : decode cX5_isStale 3 = .ok (.getfield 114, 3) := by decide +kernel
theorem dX5_isStale_6 : decode cX5_isStale 6 = .ok (.invokevirtual 106, 3) := by decide +kernel
theorem dX5_isStale_9 : decode cX5_isStale 9 = .ok (.istore_n 3, 1) := by decide +kernel
theorem dX5_isStale_10 : decode cX5_isStale 10 = .ok (.aload_n 1, 1) := by decide +kernel
theorem dX5_isStale_11 : decode cX5_isStale 11 = .ok (.invokevirtual 76, 3) := by decide +kernel
theorem dX5_isStale_14 : decode cX5_isStale 14 = .ok (.ifCond .eq 19, 3) := by decide +kernel
theorem dX5_isStale_17 : decode cX5_isStale 17 = .ok (.aload_n 1, 1) := by decide +kernel
theorem dX5_isStale_18 : decode cX5_isStale 18 = .ok (.getfield 128, 3) := by decide +kernel
theorem dX5_isStale_21 : decode cX5_isStale 21 = .ok (.iload_n 3, 1) := by decide +kernel
theorem dX5_isStale_22 : decode cX5_isStale 22 = .ok (.if_icmp .eq 7, 3) := by decide +kernel
theorem dX5_isStale_25 : decode cX5_isStale 25 = .ok (.iconst 1, 1) := by decide +kernel
theorem dX5_isStale_26 : decode cX5_isStale 26 = .ok (.goto 12, 3) := by decide +kernel
theorem dX5_isStale_29 : decode cX5_isStale 29 = .ok (.iconst 0, 1) := by decide +kernel
theorem dX5_isStale_30 : decode cX5_isStale 30 = .ok (.goto 8, 3) := by decide +kernel
theorem dX5_isStale_33 : decode cX5_isStale 33 = .ok (.aload_n 2, 1) := by decide +kernel
theorem dX5_isStale_34 : decode cX5_isStale 34 = .ok (.iload_n 3, 1) := by decide +kernel
theorem dX5_isStale_35 : decode cX5_isStale 35 = .ok (.invokevirtual 202, 3) := by decide +kernel
theorem dX5_isStale_38 : decode cX5_isStale 38 = .ok (.ireturn, 1) := by decide +kernel
theorem dX5_selectedBy_0 : decode cX5_selectedBy 0 = .ok (.aload_n 1, 1) := by decide +kernel
theorem dX5_selectedBy_1 : decode cX5_selectedBy 1 = .ok (.invokevirtual 135, 3) := by decide +kernel
theorem dX5_selectedBy_4 : decode cX5_selectedBy 4 = .ok (.ifCond .ne 5, 3) := by decide +kernel
theorem dX5_selectedBy_7 : decode cX5_selectedBy 7 = .ok (.iconst (-1), 1) := by decide +kernel
theorem dX5_selectedBy_8 : decode cX5_selectedBy 8 = .ok (.ireturn, 1) := by decide +kernel
theorem dX5_selectedBy_9 : decode cX5_selectedBy 9 = .ok (.iload_n 2, 1) := by decide +kernel
theorem dX5_selectedBy_10 : decode cX5_selectedBy 10 = .ok (.iconst (-1), 1) := by decide +kernel
theorem dX5_selectedBy_11 : decode cX5_selectedBy 11 = .ok (.if_icmp .ne 12, 3) := by decide +kernel
theorem dX5_selectedBy_14 : decode cX5_selectedBy 14 = .ok (.aload_n 1, 1) := by decide +kernel
theorem dX5_selectedBy_15 : decode cX5_selectedBy 15 = .ok (.aload_n 1, 1) := by decide +kernel
theorem dX5_selectedBy_16 : decode cX5_selectedBy 16 = .ok (.getfield 148, 3) := by decide +kernel
theorem dX5_selectedBy_19 : decode cX5_selectedBy 19 = .ok (.invokevirtual 186, 3) := by decide +kernel
theorem dX5_selectedBy_22 : decode cX5_selectedBy 22 = .ok (.ireturn, 1) := by decide +kernel
theorem dX5_selectedBy_23 : decode cX5_selectedBy 23 = .ok (.aload_n 1, 1) := by decide +kernel
theorem dX5_selectedBy_24 : decode cX5_selectedBy 24 = .ok (.getfield 121, 3) := by decide +kernel
theorem dX5_selectedBy_27 : decode cX5_selectedBy 27 = .ok (.iload_n 2, 1) := by decide +kernel
theorem dX5_selectedBy_28 : decode cX5_selectedBy 28 = .ok (.iaload, 1) := by decide +kernel
theorem dX5_selectedBy_29 : decode cX5_selectedBy 29 = .ok (.istore_n 3, 1) := by decide +kernel
theorem dX5_selectedBy_30 : decode cX5_selectedBy 30 = .ok (.iload_n 3, 1) := by decide +kernel
theorem dX5_selectedBy_31 : decode cX5_selectedBy 31 = .ok (.iconst (-1), 1) := by decide +kernel
theorem dX5_selectedBy_32 : decode cX5_selectedBy 32 = .ok (.if_icmp .eq 13, 3) := by decide +kernel
theorem dX5_selectedBy_35 : decode cX5_selectedBy 35 = .ok (.aload_n 0, 1) := by decide +kernel
theorem dX5_selectedBy_36 : decode cX5_selectedBy 36 = .ok (.getfield 23, 3) := by decide +kernel
theorem dX5_selectedBy_39 : decode cX5_selectedBy 39 = .ok (.iload_n 2, 1) := by decide +kernel
theorem dX5_selectedBy_40 : decode cX5_selectedBy 40 = .ok (.iaload, 1) := by decide +kernel
theorem dX5_selectedBy_41 : decode cX5_selectedBy 41 = .ok (.iconst 1, 1) := by decide +kernel
theorem dX5_selectedBy_42 : decode cX5_selectedBy 42 = .ok (.if_icmp .ne 5, 3) := by decide +kernel
theorem dX5_selectedBy_45 : decode cX5_selectedBy 45 = .ok (.iload_n 3, 1) := by decide +kernel
theorem dX5_selectedBy_46 : decode cX5_selectedBy 46 = .ok (.ireturn, 1) := by decide +kernel
theorem dX5_selectedBy_47 : decode cX5_selectedBy 47 = .ok (.aload_n 1, 1) := by decide +kernel
theorem dX5_selectedBy_48 : decode cX5_selectedBy 48 = .ok (.iload_n 3, 1) := by decide +kernel
theorem dX5_selectedBy_49 : decode cX5_selectedBy 49 = .ok (.invokevirtual 186, 3) := by decide +kernel
theorem dX5_selectedBy_52 : decode cX5_selectedBy 52 = .ok (.ireturn, 1) := by decide +kernel
theorem dX2_isThere_0 : decode cX2_isThere 0 = .ok (.aload_n 0, 1) := by decide +kernel
theorem dX2_isThere_1 : decode cX2_isThere 1 = .ok (.getfield 29, 3) := by decide +kernel
theorem dX2_isThere_4 : decode cX2_isThere 4 = .ok (.ifCond .le 7, 3) := by decide +kernel
theorem dX2_isThere_7 : decode cX2_isThere 7 = .ok (.iconst 1, 1) := by decide +kernel
theorem dX2_isThere_8 : decode cX2_isThere 8 = .ok (.goto 4, 3) := by decide +kernel
theorem dX2_isThere_11 : decode cX2_isThere 11 = .ok (.iconst 0, 1) := by decide +kernel
theorem dX2_isThere_12 : decode cX2_isThere 12 = .ok (.ireturn, 1) := by decide +kernel
theorem dX2_tip_0 : decode cX2_tip 0 = .ok (.aload_n 0, 1) := by decide +kernel
theorem dX2_tip_1 : decode cX2_tip 1 = .ok (.getfield 42, 3) := by decide +kernel
theorem dX2_tip_4 : decode cX2_tip 4 = .ok (.iload_n 1, 1) := by decide +kernel
theorem dX2_tip_5 : decode cX2_tip 5 = .ok (.iaload, 1) := by decide +kernel
theorem dX2_tip_6 : decode cX2_tip 6 = .ok (.ireturn, 1) := by decide +kernel
theorem dX2_isAlive_0 : decode cX2_isAlive 0 = .ok (.iload_n 1, 1) := by decide +kernel
theorem dX2_isAlive_1 : decode cX2_isAlive 1 = .ok (.iconst (-1), 1) := by decide +kernel
theorem dX2_isAlive_2 : decode cX2_isAlive 2 = .ok (.if_icmp .eq 16, 3) := by decide +kernel
theorem dX2_isAlive_5 : decode cX2_isAlive 5 = .ok (.aload_n 0, 1) := by decide +kernel
theorem dX2_isAlive_6 : decode cX2_isAlive 6 = .ok (.getfield 15, 3) := by decide +kernel
theorem dX2_isAlive_9 : decode cX2_isAlive 9 = .ok (.iload_n 1, 1) := by decide +kernel
theorem dX2_isAlive_10 : decode cX2_isAlive 10 = .ok (.baload, 1) := by decide +kernel
theorem dX2_isAlive_11 : decode cX2_isAlive 11 = .ok (.ifCond .ne 7, 3) := by decide +kernel
theorem dX2_isAlive_14 : decode cX2_isAlive 14 = .ok (.iconst 1, 1) := by decide +kernel
theorem dX2_isAlive_15 : decode cX2_isAlive 15 = .ok (.goto 4, 3) := by decide +kernel
theorem dX2_isAlive_18 : decode cX2_isAlive 18 = .ok (.iconst 0, 1) := by decide +kernel
theorem dX2_isAlive_19 : decode cX2_isAlive 19 = .ok (.ireturn, 1) := by decide +kernel
theorem dX5_isModified_0 : decode cX5_isModified 0 = .ok (.aload_n 0, 1) := by decide +kernel
theorem dX5_isModified_1 : decode cX5_isModified 1 = .ok (.getfield 72, 3) := by decide +kernel
theorem dX5_isModified_4 : decode cX5_isModified 4 = .ok (.aload_n 1, 1) := by decide +kernel
theorem dX5_isModified_5 : decode cX5_isModified 5 = .ok (.getfield 163, 3) := by decide +kernel
theorem dX5_isModified_8 : decode cX5_isModified 8 = .ok (.aload_n 0, 1) := by decide +kernel
theorem dX5_isModified_9 : decode cX5_isModified 9 = .ok (.getfield 128, 3) := by decide +kernel
theorem dX5_isModified_12 : decode cX5_isModified 12 = .ok (.laload, 1) := by decide +kernel
theorem dX5_isModified_13 : decode cX5_isModified 13 = .ok (.lcmp, 1) := by decide +kernel
theorem dX5_isModified_14 : decode cX5_isModified 14 = .ok (.ifCond .eq 7, 3) := by decide +kernel
theorem dX5_isModified_17 : decode cX5_isModified 17 = .ok (.iconst 1, 1) := by decide +kernel
theorem dX5_isModified_18 : decode cX5_isModified 18 = .ok (.goto 4, 3) := by decide +kernel
theorem dX5_isModified_21 : decode cX5_isModified 21 = .ok (.iconst 0, 1) := by decide +kernel
theorem dX5_isModified_22 : decode cX5_isModified 22 = .ok (.ireturn, 1) := by decide +kernel
theorem dX5_hasRoomToCommit_0 : decode cX5_hasRoomToCommit 0 = .ok (.aload_n 0, 1) := by decide +kernel
theorem dX5_hasRoomToCommit_1 : decode cX5_hasRoomToCommit 1 = .ok (.getfield 114, 3) := by decide +kernel
theorem dX5_hasRoomToCommit_4 : decode cX5_hasRoomToCommit 4 = .ok (.iconst (-1), 1) := by decide +kernel
theorem dX5_hasRoomToCommit_5 : decode cX5_hasRoomToCommit 5 = .ok (.if_icmp .ne 10, 3) := by decide +kernel
theorem dX5_hasRoomToCommit_8 : decode cX5_hasRoomToCommit 8 = .ok (.aload_n 1, 1) := by decide +kernel
theorem dX5_hasRoomToCommit_9 : decode cX5_hasRoomToCommit 9 = .ok (.iconst 1, 1) := by decide +kernel
theorem dX5_hasRoomToCommit_10 : decode cX5_hasRoomToCommit 10 = .ok (.iconst 0, 1) := by decide +kernel
theorem dX5_hasRoomToCommit_11 : decode cX5_hasRoomToCommit 11 = .ok (.invokevirtual 124, 3) := by decide +kernel
theorem dX5_hasRoomToCommit_14 : decode cX5_hasRoomToCommit 14 = .ok (.ireturn, 1) := by decide +kernel
theorem dX5_hasRoomToCommit_15 : decode cX5_hasRoomToCommit 15 = .ok (.aload_n 1, 1) := by decide +kernel
theorem dX5_hasRoomToCommit_16 : decode cX5_hasRoomToCommit 16 = .ok (.invokevirtual 135, 3) := by decide +kernel
theorem dX5_hasRoomToCommit_19 : decode cX5_hasRoomToCommit 19 = .ok (.ifCond .eq 7, 3) := by decide +kernel
theorem dX5_hasRoomToCommit_22 : decode cX5_hasRoomToCommit 22 = .ok (.iconst 1, 1) := by decide +kernel
theorem dX5_hasRoomToCommit_23 : decode cX5_hasRoomToCommit 23 = .ok (.goto 4, 3) := by decide +kernel
theorem dX5_hasRoomToCommit_26 : decode cX5_hasRoomToCommit 26 = .ok (.iconst 2, 1) := by decide +kernel
theorem dX5_hasRoomToCommit_27 : decode cX5_hasRoomToCommit 27 = .ok (.istore_n 2, 1) := by decide +kernel
theorem dX5_hasRoomToCommit_28 : decode cX5_hasRoomToCommit 28 = .ok (.aload_n 1, 1) := by decide +kernel
theorem dX5_hasRoomToCommit_29 : decode cX5_hasRoomToCommit 29 = .ok (.getfield 121, 3) := by decide +kernel
theorem dX5_hasRoomToCommit_32 : decode cX5_hasRoomToCommit 32 = .ok (.aload_n 0, 1) := by decide +kernel
theorem dX5_hasRoomToCommit_33 : decode cX5_hasRoomToCommit 33 = .ok (.getfield 114, 3) := by decide +kernel
theorem dX5_hasRoomToCommit_36 : decode cX5_hasRoomToCommit 36 = .ok (.iaload, 1) := by decide +kernel
theorem dX5_hasRoomToCommit_37 : decode cX5_hasRoomToCommit 37 = .ok (.iconst (-1), 1) := by decide +kernel
theorem dX5_hasRoomToCommit_38 : decode cX5_hasRoomToCommit 38 = .ok (.if_icmp .ne 7, 3) := by decide +kernel
theorem dX5_hasRoomToCommit_41 : decode cX5_hasRoomToCommit 41 = .ok (.iconst 1, 1) := by decide +kernel
theorem dX5_hasRoomToCommit_42 : decode cX5_hasRoomToCommit 42 = .ok (.goto 4, 3) := by decide +kernel
theorem dX5_hasRoomToCommit_45 : decode cX5_hasRoomToCommit 45 = .ok (.iconst 0, 1) := by decide +kernel
theorem dX5_hasRoomToCommit_46 : decode cX5_hasRoomToCommit 46 = .ok (.istore_n 3, 1) := by decide +kernel
theorem dX5_hasRoomToCommit_47 : decode cX5_hasRoomToCommit 47 = .ok (.aload_n 1, 1) := by decide +kernel
theorem dX5_hasRoomToCommit_48 : decode cX5_hasRoomToCommit 48 = .ok (.iload_n 2, 1) := by decide +kernel
theorem dX5_hasRoomToCommit_49 : decode cX5_hasRoomToCommit 49 = .ok (.iload_n 3, 1) := by decide +kernel
theorem dX5_hasRoomToCommit_50 : decode cX5_hasRoomToCommit 50 = .ok (.invokevirtual 124, 3) := by decide +kernel
theorem dX5_hasRoomToCommit_53 : decode cX5_hasRoomToCommit 53 = .ok (.ireturn, 1) := by decide +kernel
theorem dX2_hasRoom_0 : decode cX2_hasRoom 0 = .ok (.aload_n 0, 1) := by decide +kernel
theorem dX2_hasRoom_1 : decode cX2_hasRoom 1 = .ok (.getfield 29, 3) := by decide +kernel
theorem dX2_hasRoom_4 : decode cX2_hasRoom 4 = .ok (.iload_n 1, 1) := by decide +kernel
theorem dX2_hasRoom_5 : decode cX2_hasRoom 5 = .ok (.iadd, 1) := by decide +kernel
theorem dX2_hasRoom_6 : decode cX2_hasRoom 6 = .ok (.bipush 24, 2) := by decide +kernel
theorem dX2_hasRoom_8 : decode cX2_hasRoom 8 = .ok (.if_icmp .gt 18, 3) := by decide +kernel
theorem dX2_hasRoom_11 : decode cX2_hasRoom 11 = .ok (.aload_n 0, 1) := by decide +kernel
theorem dX2_hasRoom_12 : decode cX2_hasRoom 12 = .ok (.getfield 45, 3) := by decide +kernel
theorem dX2_hasRoom_15 : decode cX2_hasRoom 15 = .ok (.iload_n 2, 1) := by decide +kernel
theorem dX2_hasRoom_16 : decode cX2_hasRoom 16 = .ok (.iadd, 1) := by decide +kernel
theorem dX2_hasRoom_17 : decode cX2_hasRoom 17 = .ok (.bipush 6, 2) := by decide +kernel
theorem dX2_hasRoom_19 : decode cX2_hasRoom 19 = .ok (.if_icmp .gt 7, 3) := by decide +kernel
theorem dX2_hasRoom_22 : decode cX2_hasRoom 22 = .ok (.iconst 1, 1) := by decide +kernel
theorem dX2_hasRoom_23 : decode cX2_hasRoom 23 = .ok (.goto 4, 3) := by decide +kernel
theorem dX2_hasRoom_26 : decode cX2_hasRoom 26 = .ok (.iconst 0, 1) := by decide +kernel
theorem dX2_hasRoom_27 : decode cX2_hasRoom 27 = .ok (.ireturn, 1) := by decide +kernel
theorem dX5_commitGone_0 : decode cX5_commitGone 0 = .ok (.aload_n 0, 1) := by decide +kernel
theorem dX5_commitGone_1 : decode cX5_commitGone 1 = .ok (.aload_n 1, 1) := by decide +kernel
theorem dX5_commitGone_2 : decode cX5_commitGone 2 = .ok (.invokestatic 205, 3) := by decide +kernel
theorem dX5_commitGone_5 : decode cX5_commitGone 5 = .ok (.istore_n 2, 1) := by decide +kernel
theorem dX5_commitGone_6 : decode cX5_commitGone 6 = .ok (.aload_n 1, 1) := by decide +kernel
theorem dX5_commitGone_7 : decode cX5_commitGone 7 = .ok (.iload_n 2, 1) := by decide +kernel
theorem dX5_commitGone_8 : decode cX5_commitGone 8 = .ok (.aload_n 1, 1) := by decide +kernel
theorem dX5_commitGone_9 : decode cX5_commitGone 9 = .ok (.getfield 163, 3) := by decide +kernel
theorem dX5_commitGone_12 : decode cX5_commitGone 12 = .ok (.aload_n 0, 1) := by decide +kernel
theorem dX5_commitGone_13 : decode cX5_commitGone 13 = .ok (.getfield 128, 3) := by decide +kernel
theorem dX5_commitGone_16 : decode cX5_commitGone 16 = .ok (.laload, 1) := by decide +kernel
theorem dX5_commitGone_17 : decode cX5_commitGone 17 = .ok (.iconst 1, 1) := by decide +kernel
theorem dX5_commitGone_18 : decode cX5_commitGone 18 = .ok (.invokevirtual 141, 3) := by decide +kernel
theorem dX5_commitGone_21 : decode cX5_commitGone 21 = .ok (.istore_n 3, 1) := by decide +kernel
theorem dX5_commitGone_22 : decode cX5_commitGone 22 = .ok (.aload_n 0, 1) := by decide +kernel
theorem dX5_commitGone_23 : decode cX5_commitGone 23 = .ok (.invokevirtual 82, 3) := by decide +kernel
theorem dX5_commitGone_26 : decode cX5_commitGone 26 = .ok (.iload_n 3, 1) := by decide +kernel
theorem dX5_commitGone_27 : decode cX5_commitGone 27 = .ok (.ireturn, 1) := by decide +kernel
theorem dX5_branchToCommitOn_0 : decode cX5_branchToCommitOn 0 = .ok (.aload_n 0, 1) := by decide +kernel
theorem dX5_branchToCommitOn_1 : decode cX5_branchToCommitOn 1 = .ok (.getfield 114, 3) := by decide +kernel
theorem dX5_branchToCommitOn_4 : decode cX5_branchToCommitOn 4 = .ok (.iconst (-1), 1) := by decide +kernel
theorem dX5_branchToCommitOn_5 : decode cX5_branchToCommitOn 5 = .ok (.if_icmp .ne 10, 3) := by decide +kernel
theorem dX5_branchToCommitOn_8 : decode cX5_branchToCommitOn 8 = .ok (.aload_n 1, 1) := by decide +kernel
theorem dX5_branchToCommitOn_9 : decode cX5_branchToCommitOn 9 = .ok (.iconst 0, 1) := by decide +kernel
theorem dX5_branchToCommitOn_10 : decode cX5_branchToCommitOn 10 = .ok (.putfield 148, 3) := by decide +kernel
theorem dX5_branchToCommitOn_13 : decode cX5_branchToCommitOn 13 = .ok (.iconst 0, 1) := by decide +kernel
theorem dX5_branchToCommitOn_14 : decode cX5_branchToCommitOn 14 = .ok (.ireturn, 1) := by decide +kernel
theorem dX5_branchToCommitOn_15 : decode cX5_branchToCommitOn 15 = .ok (.aload_n 1, 1) := by decide +kernel
theorem dX5_branchToCommitOn_16 : decode cX5_branchToCommitOn 16 = .ok (.invokevirtual 135, 3) := by decide +kernel
theorem dX5_branchToCommitOn_19 : decode cX5_branchToCommitOn 19 = .ok (.ifCond .ne 11, 3) := by decide +kernel
theorem dX5_branchToCommitOn_22 : decode cX5_branchToCommitOn 22 = .ok (.aload_n 1, 1) := by decide +kernel
theorem dX5_branchToCommitOn_23 : decode cX5_branchToCommitOn 23 = .ok (.iconst 0, 1) := by decide +kernel
theorem dX5_branchToCommitOn_24 : decode cX5_branchToCommitOn 24 = .ok (.lconst 0, 1) := by decide +kernel
theorem dX5_branchToCommitOn_25 : decode cX5_branchToCommitOn 25 = .ok (.iconst 1, 1) := by decide +kernel
theorem dX5_branchToCommitOn_26 : decode cX5_branchToCommitOn 26 = .ok (.invokevirtual 141, 3) := by decide +kernel
theorem dX5_branchToCommitOn_29 : decode cX5_branchToCommitOn 29 = .ok (.pop, 1) := by decide +kernel
theorem dX5_branchToCommitOn_30 : decode cX5_branchToCommitOn 30 = .ok (.aload_n 1, 1) := by decide +kernel
theorem dX5_branchToCommitOn_31 : decode cX5_branchToCommitOn 31 = .ok (.getfield 121, 3) := by decide +kernel
theorem dX5_branchToCommitOn_34 : decode cX5_branchToCommitOn 34 = .ok (.aload_n 0, 1) := by decide +kernel
theorem dX5_branchToCommitOn_35 : decode cX5_branchToCommitOn 35 = .ok (.getfield 114, 3) := by decide +kernel
theorem dX5_branchToCommitOn_38 : decode cX5_branchToCommitOn 38 = .ok (.iaload, 1) := by decide +kernel
theorem dX5_branchToCommitOn_39 : decode cX5_branchToCommitOn 39 = .ok (.iconst (-1), 1) := by decide +kernel
theorem dX5_branchToCommitOn_40 : decode cX5_branchToCommitOn 40 = .ok (.if_icmp .ne 21, 3) := by decide +kernel
theorem dX5_branchToCommitOn_43 : decode cX5_branchToCommitOn 43 = .ok (.aload_n 1, 1) := by decide +kernel
theorem dX5_branchToCommitOn_44 : decode cX5_branchToCommitOn 44 = .ok (.getfield 121, 3) := by decide +kernel
theorem dX5_branchToCommitOn_47 : decode cX5_branchToCommitOn 47 = .ok (.aload_n 0, 1) := by decide +kernel
theorem dX5_branchToCommitOn_48 : decode cX5_branchToCommitOn 48 = .ok (.getfield 114, 3) := by decide +kernel
theorem dX5_branchToCommitOn_51 : decode cX5_branchToCommitOn 51 = .ok (.aload_n 1, 1) := by decide +kernel
theorem dX5_branchToCommitOn_52 : decode cX5_branchToCommitOn 52 = .ok (.aload_n 1, 1) := by decide +kernel
theorem dX5_branchToCommitOn_53 : decode cX5_branchToCommitOn 53 = .ok (.iconst 0, 1) := by decide +kernel
theorem dX5_branchToCommitOn_54 : decode cX5_branchToCommitOn 54 = .ok (.invokevirtual 186, 3) := by decide +kernel
theorem dX5_branchToCommitOn_57 : decode cX5_branchToCommitOn 57 = .ok (.invokevirtual 131, 3) := by decide +kernel
theorem dX5_branchToCommitOn_60 : decode cX5_branchToCommitOn 60 = .ok (.iastore, 1) := by decide +kernel
theorem dX5_branchToCommitOn_61 : decode cX5_branchToCommitOn 61 = .ok (.aload_n 1, 1) := by decide +kernel
theorem dX5_branchToCommitOn_62 : decode cX5_branchToCommitOn 62 = .ok (.getfield 121, 3) := by decide +kernel
theorem dX5_branchToCommitOn_65 : decode cX5_branchToCommitOn 65 = .ok (.aload_n 0, 1) := by decide +kernel
theorem dX5_branchToCommitOn_66 : decode cX5_branchToCommitOn 66 = .ok (.getfield 114, 3) := by decide +kernel
theorem dX5_branchToCommitOn_69 : decode cX5_branchToCommitOn 69 = .ok (.iaload, 1) := by decide +kernel
theorem dX5_branchToCommitOn_70 : decode cX5_branchToCommitOn 70 = .ok (.ireturn, 1) := by decide +kernel
theorem dX2_append_0 : decode cX2_append 0 = .ok (.aload_n 0, 1) := by decide +kernel
theorem dX2_append_1 : decode cX2_append 1 = .ok (.getfield 29, 3) := by decide +kernel
theorem dX2_append_4 : decode cX2_append 4 = .ok (.istore 5, 2) := by decide +kernel
theorem dX2_append_6 : decode cX2_append 6 = .ok (.aload_n 0, 1) := by decide +kernel
theorem dX2_append_7 : decode cX2_append 7 = .ok (.dup, 1) := by decide +kernel
theorem dX2_append_8 : decode cX2_append 8 = .ok (.getfield 29, 3) := by decide +kernel
theorem dX2_append_11 : decode cX2_append 11 = .ok (.iconst 1, 1) := by decide +kernel
theorem dX2_append_12 : decode cX2_append 12 = .ok (.iadd, 1) := by decide +kernel
theorem dX2_append_13 : decode cX2_append 13 = .ok (.putfield 29, 3) := by decide +kernel
theorem dX2_append_16 : decode cX2_append 16 = .ok (.aload_n 0, 1) := by decide +kernel
theorem dX2_append_17 : decode cX2_append 17 = .ok (.getfield 39, 3) := by decide +kernel
theorem dX2_append_20 : decode cX2_append 20 = .ok (.iload_n 1, 1) := by decide +kernel
theorem dX2_append_21 : decode cX2_append 21 = .ok (.dup2, 1) := by decide +kernel
theorem dX2_append_22 : decode cX2_append 22 = .ok (.iaload, 1) := by decide +kernel
theorem dX2_append_23 : decode cX2_append 23 = .ok (.iconst 1, 1) := by decide +kernel
theorem dX2_append_24 : decode cX2_append 24 = .ok (.iadd, 1) := by decide +kernel
theorem dX2_append_25 : decode cX2_append 25 = .ok (.iastore, 1) := by decide +kernel
theorem dX2_append_26 : decode cX2_append 26 = .ok (.aload_n 0, 1) := by decide +kernel
theorem dX2_append_27 : decode cX2_append 27 = .ok (.getfield 9, 3) := by decide +kernel
theorem dX2_append_30 : decode cX2_append 30 = .ok (.iload 5, 2) := by decide +kernel
theorem dX2_append_32 : decode cX2_append 32 = .ok (.lload_n 2, 1) := by decide +kernel
theorem dX2_append_33 : decode cX2_append 33 = .ok (.lastore, 1) := by decide +kernel
theorem dX2_append_34 : decode cX2_append 34 = .ok (.aload_n 0, 1) := by decide +kernel
theorem dX2_append_35 : decode cX2_append 35 = .ok (.getfield 15, 3) := by decide +kernel
theorem dX2_append_38 : decode cX2_append 38 = .ok (.iload 5, 2) := by decide +kernel
theorem dX2_append_40 : decode cX2_append 40 = .ok (.iload 4, 2) := by decide +kernel
theorem dX2_append_42 : decode cX2_append 42 = .ok (.bastore, 1) := by decide +kernel
theorem dX2_append_43 : decode cX2_append 43 = .ok (.aload_n 0, 1) := by decide +kernel
theorem dX2_append_44 : decode cX2_append 44 = .ok (.getfield 19, 3) := by decide +kernel
theorem dX2_append_47 : decode cX2_append 47 = .ok (.iload 5, 2) := by decide +kernel
theorem dX2_append_49 : decode cX2_append 49 = .ok (.iload_n 1, 1) := by decide +kernel
theorem dX2_append_50 : decode cX2_append 50 = .ok (.iastore, 1) := by decide +kernel
theorem dX2_append_51 : decode cX2_append 51 = .ok (.aload_n 0, 1) := by decide +kernel
theorem dX2_append_52 : decode cX2_append 52 = .ok (.getfield 23, 3) := by decide +kernel
theorem dX2_append_55 : decode cX2_append 55 = .ok (.iload 5, 2) := by decide +kernel
theorem dX2_append_57 : decode cX2_append 57 = .ok (.aload_n 0, 1) := by decide +kernel
theorem dX2_append_58 : decode cX2_append 58 = .ok (.getfield 39, 3) := by decide +kernel
theorem dX2_append_61 : decode cX2_append 61 = .ok (.iload_n 1, 1) := by decide +kernel
theorem dX2_append_62 : decode cX2_append 62 = .ok (.iaload, 1) := by decide +kernel
theorem dX2_append_63 : decode cX2_append 63 = .ok (.iastore, 1) := by decide +kernel
theorem dX2_append_64 : decode cX2_append 64 = .ok (.aload_n 0, 1) := by decide +kernel
theorem dX2_append_65 : decode cX2_append 65 = .ok (.getfield 26, 3) := by decide +kernel
theorem dX2_append_68 : decode cX2_append 68 = .ok (.iload 5, 2) := by decide +kernel
theorem dX2_append_70 : decode cX2_append 70 = .ok (.aload_n 0, 1) := by decide +kernel
theorem dX2_append_71 : decode cX2_append 71 = .ok (.getfield 42, 3) := by decide +kernel
theorem dX2_append_74 : decode cX2_append 74 = .ok (.iload_n 1, 1) := by decide +kernel
theorem dX2_append_75 : decode cX2_append 75 = .ok (.iaload, 1) := by decide +kernel
theorem dX2_append_76 : decode cX2_append 76 = .ok (.iastore, 1) := by decide +kernel
theorem dX2_append_77 : decode cX2_append 77 = .ok (.aload_n 0, 1) := by decide +kernel
theorem dX2_append_78 : decode cX2_append 78 = .ok (.getfield 42, 3) := by decide +kernel
theorem dX2_append_81 : decode cX2_append 81 = .ok (.iload_n 1, 1) := by decide +kernel
theorem dX2_append_82 : decode cX2_append 82 = .ok (.iload 5, 2) := by decide +kernel
theorem dX2_append_84 : decode cX2_append 84 = .ok (.iastore, 1) := by decide +kernel
theorem dX2_append_85 : decode cX2_append 85 = .ok (.iload 5, 2) := by decide +kernel
theorem dX2_append_87 : decode cX2_append 87 = .ok (.ireturn, 1) := by decide +kernel
theorem dX2_openBranch_0 : decode cX2_openBranch 0 = .ok (.aload_n 0, 1) := by decide +kernel
theorem dX2_openBranch_1 : decode cX2_openBranch 1 = .ok (.iload_n 1, 1) := by decide +kernel
theorem dX2_openBranch_2 : decode cX2_openBranch 2 = .ok (.aload_n 0, 1) := by decide +kernel
theorem dX2_openBranch_3 : decode cX2_openBranch 3 = .ok (.iload_n 1, 1) := by decide +kernel
theorem dX2_openBranch_4 : decode cX2_openBranch 4 = .ok (.invokevirtual 63, 3) := by decide +kernel
theorem dX2_openBranch_7 : decode cX2_openBranch 7 = .ok (.invokevirtual 67, 3) := by decide +kernel
theorem dX2_openBranch_10 : decode cX2_openBranch 10 = .ok (.ireturn, 1) := by decide +kernel
theorem dX2_freeMagic_0 : decode cX2_freeMagic 0 = .ok (.iconst 2, 1) := by decide +kernel
theorem dX2_freeMagic_1 : decode cX2_freeMagic 1 = .ok (.istore_n 2, 1) := by decide +kernel
theorem dX2_freeMagic_2 : decode cX2_freeMagic 2 = .ok (.iconst 1, 1) := by decide +kernel
theorem dX2_freeMagic_3 : decode cX2_freeMagic 3 = .ok (.istore_n 3, 1) := by decide +kernel
theorem dX2_freeMagic_4 : decode cX2_freeMagic 4 = .ok (.iload_n 3, 1) := by decide +kernel
theorem dX2_freeMagic_5 : decode cX2_freeMagic 5 = .ok (.aload_n 0, 1) := by decide +kernel
theorem dX2_freeMagic_6 : decode cX2_freeMagic 6 = .ok (.getfield 45, 3) := by decide +kernel
theorem dX2_freeMagic_9 : decode cX2_freeMagic 9 = .ok (.if_icmp .ge 30, 3) := by decide +kernel
theorem dX2_freeMagic_12 : decode cX2_freeMagic 12 = .ok (.iload_n 3, 1) := by decide +kernel
theorem dX2_freeMagic_13 : decode cX2_freeMagic 13 = .ok (.aload_n 0, 1) := by decide +kernel
theorem dX2_freeMagic_14 : decode cX2_freeMagic 14 = .ok (.getfield 48, 3) := by decide +kernel
theorem dX2_freeMagic_17 : decode cX2_freeMagic 17 = .ok (.if_icmp .eq 16, 3) := by decide +kernel
theorem dX2_freeMagic_20 : decode cX2_freeMagic 20 = .ok (.aload_n 0, 1) := by decide +kernel
theorem dX2_freeMagic_21 : decode cX2_freeMagic 21 = .ok (.getfield 33, 3) := by decide +kernel
theorem dX2_freeMagic_24 : decode cX2_freeMagic 24 = .ok (.iload_n 3, 1) := by decide +kernel
theorem dX2_freeMagic_25 : decode cX2_freeMagic 25 = .ok (.iaload, 1) := by decide +kernel
theorem dX2_freeMagic_26 : decode cX2_freeMagic 26 = .ok (.iload_n 1, 1) := by decide +kernel
theorem dX2_freeMagic_27 : decode cX2_freeMagic 27 = .ok (.if_icmp .ne 6, 3) := by decide +kernel
theorem dX2_freeMagic_30 : decode cX2_freeMagic 30 = .ok (.iinc 2 2, 3) := by decide +kernel
theorem dX2_freeMagic_33 : decode cX2_freeMagic 33 = .ok (.iinc 3 1, 3) := by decide +kernel
theorem dX2_freeMagic_36 : decode cX2_freeMagic 36 = .ok (.goto (-32), 3) := by decide +kernel
theorem dX2_freeMagic_39 : decode cX2_freeMagic 39 = .ok (.iload_n 2, 1) := by decide +kernel
theorem dX2_freeMagic_40 : decode cX2_freeMagic 40 = .ok (.ireturn, 1) := by decide +kernel
end
section
/-! what the bytes say -/
theorem dX2_openBranchWith_0 : decode cX2_openBranchWith 0 = .ok (.aload_n 0, 1) := by decide +kernel
theorem dX2_openBranchWith_1 : decode cX2_openBranchWith 1 = .ok (.getfield 45, 3) := by decide +kernel
theorem dX2_openBranchWith_4 : decode cX2_openBranchWith 4 = .ok (.istore_n 3, 1) := by decide +kernel
theorem dX2_openBranchWith_5 : decode cX2_openBranchWith 5 = .ok (.aload_n 0, 1) := by decide +kernel
theorem dX2_openBranchWith_6 : decode cX2_openBranchWith 6 = .ok (.dup, 1) := by decide +kernel
theorem dX2_openBranchWith_7 : decode cX2_openBranchWith 7 = .ok (.getfield 45, 3) := by decide +kernel
theorem dX2_openBranchWith_10 : decode cX2_openBranchWith 10 = .ok (.iconst 1, 1) := by decide +kernel
theorem dX2_openBranchWith_11 : decode cX2_openBranchWith 11 = .ok (.iadd, 1) := by decide +kernel
theorem dX2_openBranchWith_12 : decode cX2_openBranchWith 12 = .ok (.putfield 45, 3) := by decide +kernel
theorem dX2_openBranchWith_15 : decode cX2_openBranchWith 15 = .ok (.aload_n 0, 1) := by decide +kernel
theorem dX2_openBranchWith_16 : decode cX2_openBranchWith 16 = .ok (.getfield 33, 3) := by decide +kernel
theorem dX2_openBranchWith_19 : decode cX2_openBranchWith 19 = .ok (.iload_n 3, 1) := by decide +kernel
theorem dX2_openBranchWith_20 : decode cX2_openBranchWith 20 = .ok (.iload_n 1, 1) := by decide +kernel
theorem dX2_openBranchWith_21 : decode cX2_openBranchWith 21 = .ok (.iastore, 1) := by decide +kernel
theorem dX2_openBranchWith_22 : decode cX2_openBranchWith 22 = .ok (.aload_n 0, 1) := by decide +kernel
theorem dX2_openBranchWith_23 : decode cX2_openBranchWith 23 = .ok (.getfield 36, 3) := by decide +kernel
theorem dX2_openBranchWith_26 : decode cX2_openBranchWith 26 = .ok (.iload_n 3, 1) := by decide +kernel
theorem dX2_openBranchWith_27 : decode cX2_openBranchWith 27 = .ok (.iload_n 2, 1) := by decide +kernel
theorem dX2_openBranchWith_28 : decode cX2_openBranchWith 28 = .ok (.iastore, 1) := by decide +kernel
theorem dX2_openBranchWith_29 : decode cX2_openBranchWith 29 = .ok (.aload_n 0, 1) := by decide +kernel
theorem dX2_openBranchWith_30 : decode cX2_openBranchWith 30 = .ok (.getfield 42, 3) := by decide +kernel
theorem dX2_openBranchWith_33 : decode cX2_openBranchWith 33 = .ok (.iload_n 3, 1) := by decide +kernel
theorem dX2_openBranchWith_34 : decode cX2_openBranchWith 34 = .ok (.iload_n 1, 1) := by decide +kernel
theorem dX2_openBranchWith_35 : decode cX2_openBranchWith 35 = .ok (.iastore, 1) := by decide +kernel
theorem dX2_openBranchWith_36 : decode cX2_openBranchWith 36 = .ok (.iload_n 3, 1) := by decide +kernel
theorem dX2_openBranchWith_37 : decode cX2_openBranchWith 37 = .ok (.ireturn, 1) := by decide +kernel
theorem dX5_commitText_0 : decode cX5_commitText 0 = .ok (.aload_n 0, 1) := by decide +kernel
theorem dX5_commitText_1 : decode cX5_commitText 1 = .ok (.aload_n 1, 1) := by decide +kernel
theorem dX5_commitText_2 : decode cX5_commitText 2 = .ok (.invokestatic 205, 3) := by decide +kernel
theorem dX5_commitText_5 : decode cX5_commitText 5 = .ok (.istore_n 2, 1) := by decide +kernel
theorem dX5_commitText_6 : decode cX5_commitText 6 = .ok (.aload_n 1, 1) := by decide +kernel
theorem dX5_commitText_7 : decode cX5_commitText 7 = .ok (.iload_n 2, 1) := by decide +kernel
theorem dX5_commitText_8 : decode cX5_commitText 8 = .ok (.aload_n 0, 1) := by decide +kernel
theorem dX5_commitText_9 : decode cX5_commitText 9 = .ok (.getfield 72, 3) := by decide +kernel
theorem dX5_commitText_12 : decode cX5_commitText 12 = .ok (.iconst 0, 1) := by decide +kernel
theorem dX5_commitText_13 : decode cX5_commitText 13 = .ok (.invokevirtual 141, 3) := by decide +kernel
theorem dX5_commitText_16 : decode cX5_commitText 16 = .ok (.istore_n 3, 1) := by decide +kernel
theorem dX5_commitText_17 : decode cX5_commitText 17 = .ok (.aload_n 0, 1) := by decide +kernel
theorem dX5_commitText_18 : decode cX5_commitText 18 = .ok (.iload_n 3, 1) := by decide +kernel
theorem dX5_commitText_19 : decode cX5_commitText 19 = .ok (.aload_n 0, 1) := by decide +kernel
theorem dX5_commitText_20 : decode cX5_commitText 20 = .ok (.getfield 72, 3) := by decide +kernel
theorem dX5_commitText_23 : decode cX5_commitText 23 = .ok (.invokevirtual 62, 3) := by decide +kernel
theorem dX5_commitText_26 : decode cX5_commitText 26 = .ok (.iload_n 3, 1) := by decide +kernel
theorem dX5_commitText_27 : decode cX5_commitText 27 = .ok (.ireturn, 1) := by decide +kernel
theorem dX5_update_0 : decode cX5_update 0 = .ok (.iload_n 1, 1) := by decide +kernel
theorem dX5_update_1 : decode cX5_update 1 = .ok (.invokestatic 41, 3) := by decide +kernel
theorem dX5_update_4 : decode cX5_update 4 = .ok (.ifCond .eq 18, 3) := by decide +kernel
theorem dX5_update_7 : decode cX5_update 7 = .ok (.iload_n 2, 1) := by decide +kernel
theorem dX5_update_8 : decode cX5_update 8 = .ok (.invokestatic 45, 3) := by decide +kernel
theorem dX5_update_11 : decode cX5_update 11 = .ok (.ifCond .eq 11, 3) := by decide +kernel
theorem dX5_update_14 : decode cX5_update 14 = .ok (.aload_n 0, 1) := by decide +kernel
theorem dX5_update_15 : decode cX5_update 15 = .ok (.iload_n 3, 1) := by decide +kernel
theorem dX5_update_16 : decode cX5_update 16 = .ok (.invokevirtual 99, 3) := by decide +kernel
theorem dX5_update_19 : decode cX5_update 19 = .ok (.ifCond .ne 5, 3) := by decide +kernel
theorem dX5_update_22 : decode cX5_update 22 = .ok (.iconst (-1), 1) := by decide +kernel
theorem dX5_update_23 : decode cX5_update 23 = .ok (.ireturn, 1) := by decide +kernel
theorem dX5_update_24 : decode cX5_update 24 = .ok (.aload_n 0, 1) := by decide +kernel
theorem dX5_update_25 : decode cX5_update 25 = .ok (.iload_n 1, 1) := by decide +kernel
theorem dX5_update_26 : decode cX5_update 26 = .ok (.iload_n 2, 1) := by decide +kernel
theorem dX5_update_27 : decode cX5_update 27 = .ok (.invokevirtual 48, 3) := by decide +kernel
theorem dX5_update_30 : decode cX5_update 30 = .ok (.astore 4, 2) := by decide +kernel
theorem dX5_update_32 : decode cX5_update 32 = .ok (.aload_n 0, 1) := by decide +kernel
theorem dX5_update_33 : decode cX5_update 33 = .ok (.getfield 11, 3) := by decide +kernel
theorem dX5_update_36 : decode cX5_update 36 = .ok (.iload_n 2, 1) := by decide +kernel
theorem dX5_update_37 : decode cX5_update 37 = .ok (.aaload, 1) := by decide +kernel
theorem dX5_update_38 : decode cX5_update 38 = .ok (.astore 5, 2) := by decide +kernel
theorem dX5_update_40 : decode cX5_update 40 = .ok (.aload 4, 2) := by decide +kernel
theorem dX5_update_42 : decode cX5_update 42 = .ok (.iload_n 3, 1) := by decide +kernel
theorem dX5_update_43 : decode cX5_update 43 = .ok (.invokestatic 102, 3) := by decide +kernel
theorem dX5_update_46 : decode cX5_update 46 = .ok (.istore 6, 2) := by decide +kernel
theorem dX5_update_48 : decode cX5_update 48 = .ok (.aload_n 0, 1) := by decide +kernel
theorem dX5_update_49 : decode cX5_update 49 = .ok (.aload 4, 2) := by decide +kernel
theorem dX5_update_51 : decode cX5_update 51 = .ok (.aload 5, 2) := by decide +kernel
theorem dX5_update_53 : decode cX5_update 53 = .ok (.aload_n 0, 1) := by decide +kernel
theorem dX5_update_54 : decode cX5_update 54 = .ok (.aload 5, 2) := by decide +kernel
theorem dX5_update_56 : decode cX5_update 56 = .ok (.iload 6, 2) := by decide +kernel
theorem dX5_update_58 : decode cX5_update 58 = .ok (.invokevirtual 106, 3) := by decide +kernel
theorem dX5_update_61 : decode cX5_update 61 = .ok (.invokevirtual 110, 3) := by decide +kernel
theorem dX5_update_64 : decode cX5_update 64 = .ok (.istore 7, 2) := by decide +kernel
theorem dX5_update_66 : decode cX5_update 66 = .ok (.iload 7, 2) := by decide +kernel
theorem dX5_update_68 : decode cX5_update 68 = .ok (.iconst 3, 1) := by decide +kernel
theorem dX5_update_69 : decode cX5_update 69 = .ok (.if_icmp .eq 17, 3) := by decide +kernel
theorem dX5_update_72 : decode cX5_update 72 = .ok (.iload 7, 2) := by decide +kernel
theorem dX5_update_74 : decode cX5_update 74 = .ok (.bipush (-7), 2) := by decide +kernel
theorem dX5_update_76 : decode cX5_update 76 = .ok (.if_icmp .eq 10, 3) := by decide +kernel
theorem dX5_update_79 : decode cX5_update 79 = .ok (.aload 4, 2) := by decide +kernel
theorem dX5_update_81 : decode cX5_update 81 = .ok (.iload 6, 2) := by decide +kernel
theorem dX5_update_83 : decode cX5_update 83 = .ok (.putfield 114, 3) := by decide +kernel
theorem dX5_update_86 : decode cX5_update 86 = .ok (.iload 7, 2) := by decide +kernel
theorem dX5_update_88 : decode cX5_update 88 = .ok (.ireturn, 1) := by decide +kernel
theorem dX5_isStickyWish_0 : decode cX5_isStickyWish 0 = .ok (.iload_n 1, 1) := by decide +kernel
theorem dX5_isStickyWish_1 : decode cX5_isStickyWish 1 = .ok (.iconst (-1), 1) := by decide +kernel
theorem dX5_isStickyWish_2 : decode cX5_isStickyWish 2 = .ok (.if_icmp .eq 24, 3) := by decide +kernel
theorem dX5_isStickyWish_5 : decode cX5_isStickyWish 5 = .ok (.iload_n 1, 1) := by decide +kernel
theorem dX5_isStickyWish_6 : decode cX5_isStickyWish 6 = .ok (.iconst 5, 1) := by decide +kernel
theorem dX5_isStickyWish_7 : decode cX5_isStickyWish 7 = .ok (.if_icmp .eq 19, 3) := by decide +kernel
theorem dX5_isStickyWish_10 : decode cX5_isStickyWish 10 = .ok (.iload_n 1, 1) := by decide +kernel
theorem dX5_isStickyWish_11 : decode cX5_isStickyWish 11 = .ok (.invokestatic 118, 3) := by decide +kernel
theorem dX5_isStickyWish_14 : decode cX5_isStickyWish 14 = .ok (.ifCond .eq 16, 3) := by decide +kernel
theorem dX5_isStickyWish_17 : decode cX5_isStickyWish 17 = .ok (.aload_n 0, 1) := by decide +kernel
theorem dX5_isStickyWish_18 : decode cX5_isStickyWish 18 = .ok (.getfield 23, 3) := by decide +kernel
theorem dX5_isStickyWish_21 : decode cX5_isStickyWish 21 = .ok (.iload_n 1, 1) := by decide +kernel
theorem dX5_isStickyWish_22 : decode cX5_isStickyWish 22 = .ok (.iaload, 1) := by decide +kernel
theorem dX5_isStickyWish_23 : decode cX5_isStickyWish 23 = .ok (.ifCond .eq 7, 3) := by decide +kernel
theorem dX5_isStickyWish_26 : decode cX5_isStickyWish 26 = .ok (.iconst 1, 1) := by decide +kernel
theorem dX5_isStickyWish_27 : decode cX5_isStickyWish 27 = .ok (.goto 4, 3) := by decide +kernel
theorem dX5_isStickyWish_30 : decode cX5_isStickyWish 30 = .ok (.iconst 0, 1) := by decide +kernel
theorem dX5_isStickyWish_31 : decode cX5_isStickyWish 31 = .ok (.ireturn, 1) := by decide +kernel
theorem dX5_isTag_0 : decode cX5_isTag 0 = .ok (.iload_n 0, 1) := by decide +kernel
theorem dX5_isTag_1 : decode cX5_isTag 1 = .ok (.ifCond .lt 12, 3) := by decide +kernel
theorem dX5_isTag_4 : decode cX5_isTag 4 = .ok (.iload_n 0, 1) := by decide +kernel
theorem dX5_isTag_5 : decode cX5_isTag 5 = .ok (.iconst 5, 1) := by decide +kernel
theorem dX5_isTag_6 : decode cX5_isTag 6 = .ok (.if_icmp .ge 7, 3) := by decide +kernel
theorem dX5_isTag_9 : decode cX5_isTag 9 = .ok (.iconst 1, 1) := by decide +kernel
theorem dX5_isTag_10 : decode cX5_isTag 10 = .ok (.goto 4, 3) := by decide +kernel
theorem dX5_isTag_13 : decode cX5_isTag 13 = .ok (.iconst 0, 1) := by decide +kernel
theorem dX5_isTag_14 : decode cX5_isTag 14 = .ok (.ireturn, 1) := by decide +kernel
theorem dX5_wishedTag_0 : decode cX5_wishedTag 0 = .ok (.iload_n 1, 1) := by decide +kernel
theorem dX5_wishedTag_1 : decode cX5_wishedTag 1 = .ok (.iconst (-1), 1) := by decide +kernel
theorem dX5_wishedTag_2 : decode cX5_wishedTag 2 = .ok (.if_icmp .ne 8, 3) := by decide +kernel
theorem dX5_wishedTag_5 : decode cX5_wishedTag 5 = .ok (.aload_n 0, 1) := by decide +kernel
theorem dX5_wishedTag_6 : decode cX5_wishedTag 6 = .ok (.getfield 114, 3) := by decide +kernel
theorem dX5_wishedTag_9 : decode cX5_wishedTag 9 = .ok (.ireturn, 1) := by decide +kernel
theorem dX5_wishedTag_10 : decode cX5_wishedTag 10 = .ok (.iload_n 1, 1) := by decide +kernel
theorem dX5_wishedTag_11 : decode cX5_wishedTag 11 = .ok (.iconst 5, 1) := by decide +kernel
theorem dX5_wishedTag_12 : decode cX5_wishedTag 12 = .ok (.if_icmp .ne 7, 3) := by decide +kernel
theorem dX5_wishedTag_15 : decode cX5_wishedTag 15 = .ok (.iconst (-1), 1) := by decide +kernel
theorem dX5_wishedTag_16 : decode cX5_wishedTag 16 = .ok (.goto 4, 3) := by decide +kernel
theorem dX5_wishedTag_19 : decode cX5_wishedTag 19 = .ok (.iload_n 1, 1) := by decide +kernel
theorem dX5_wishedTag_20 : decode cX5_wishedTag 20 = .ok (.ireturn, 1) := by decide +kernel
theorem dX5_updateCopy_0 : decode cX5_updateCopy 0 = .ok (.aload_n 2, 1) := by decide +kernel
theorem dX5_updateCopy_1 : decode cX5_updateCopy 1 = .ok (.iload_n 3, 1) := by decide +kernel
theorem dX5_updateCopy_2 : decode cX5_updateCopy 2 = .ok (.invokevirtual 202, 3) := by decide +kernel
theorem dX5_updateCopy_5 : decode cX5_updateCopy 5 = .ok (.istore 4, 2) := by decide +kernel
theorem dX5_updateCopy_7 : decode cX5_updateCopy 7 = .ok (.aload_n 1, 1) := by decide +kernel
theorem dX5_updateCopy_8 : decode cX5_updateCopy 8 = .ok (.getfield 128, 3) := by decide +kernel
theorem dX5_updateCopy_11 : decode cX5_updateCopy 11 = .ok (.bipush (-2), 2) := by decide +kernel
theorem dX5_updateCopy_13 : decode cX5_updateCopy 13 = .ok (.if_icmp .ne 14, 3) := by decide +kernel
theorem dX5_updateCopy_16 : decode cX5_updateCopy 16 = .ok (.iload 4, 2) := by decide +kernel
theorem dX5_updateCopy_18 : decode cX5_updateCopy 18 = .ok (.ifCond .eq 7, 3) := by decide +kernel
theorem dX5_updateCopy_21 : decode cX5_updateCopy 21 = .ok (.iconst 3, 1) := by decide +kernel
theorem dX5_updateCopy_22 : decode cX5_updateCopy 22 = .ok (.goto 4, 3) := by decide +kernel
theorem dX5_updateCopy_25 : decode cX5_updateCopy 25 = .ok (.iconst 0, 1) := by decide +kernel
theorem dX5_updateCopy_26 : decode cX5_updateCopy 26 = .ok (.ireturn, 1) := by decide +kernel
theorem dX5_updateCopy_27 : decode cX5_updateCopy 27 = .ok (.iload 4, 2) := by decide +kernel
theorem dX5_updateCopy_29 : decode cX5_updateCopy 29 = .ok (.ifCond .ne 9, 3) := by decide +kernel
theorem dX5_updateCopy_32 : decode cX5_updateCopy 32 = .ok (.aload_n 1, 1) := by decide +kernel
theorem dX5_updateCopy_33 : decode cX5_updateCopy 33 = .ok (.aload_n 2, 1) := by decide +kernel
theorem dX5_updateCopy_34 : decode cX5_updateCopy 34 = .ok (.invokestatic 208, 3) := by decide +kernel
theorem dX5_updateCopy_37 : decode cX5_updateCopy 37 = .ok (.ireturn, 1) := by decide +kernel
theorem dX5_updateCopy_38 : decode cX5_updateCopy 38 = .ok (.aload_n 1, 1) := by decide +kernel
theorem dX5_updateCopy_39 : decode cX5_updateCopy 39 = .ok (.invokevirtual 52, 3) := by decide +kernel
theorem dX5_updateCopy_42 : decode cX5_updateCopy 42 = .ok (.ifCond .ne 16, 3) := by decide +kernel
theorem dX5_updateCopy_45 : decode cX5_updateCopy 45 = .ok (.aload_n 1, 1) := by decide +kernel
theorem dX5_updateCopy_46 : decode cX5_updateCopy 46 = .ok (.iload_n 3, 1) := by decide +kernel
theorem dX5_updateCopy_47 : decode cX5_updateCopy 47 = .ok (.aload_n 2, 1) := by decide +kernel
theorem dX5_updateCopy_48 : decode cX5_updateCopy 48 = .ok (.getfield 163, 3) := by decide +kernel
theorem dX5_updateCopy_51 : decode cX5_updateCopy 51 = .ok (.iload_n 3, 1) := by decide +kernel
theorem dX5_updateCopy_52 : decode cX5_updateCopy 52 = .ok (.laload, 1) := by decide +kernel
theorem dX5_updateCopy_53 : decode cX5_updateCopy 53 = .ok (.invokevirtual 62, 3) := by decide +kernel
theorem dX5_updateCopy_56 : decode cX5_updateCopy 56 = .ok (.iconst 2, 1) := by decide +kernel
theorem dX5_updateCopy_57 : decode cX5_updateCopy 57 = .ok (.ireturn, 1) := by decide +kernel
theorem dX5_updateCopy_58 : decode cX5_updateCopy 58 = .ok (.aload_n 1, 1) := by decide +kernel
theorem dX5_updateCopy_59 : decode cX5_updateCopy 59 = .ok (.getfield 89, 3) := by decide +kernel
theorem dX5_updateCopy_62 : decode cX5_updateCopy 62 = .ok (.ifCond .ne 11, 3) := by decide +kernel
theorem dX5_updateCopy_65 : decode cX5_updateCopy 65 = .ok (.aload_n 1, 1) := by decide +kernel
theorem dX5_updateCopy_66 : decode cX5_updateCopy 66 = .ok (.getfield 128, 3) := by decide +kernel
theorem dX5_updateCopy_69 : decode cX5_updateCopy 69 = .ok (.iload_n 3, 1) := by decide +kernel
theorem dX5_updateCopy_70 : decode cX5_updateCopy 70 = .ok (.if_icmp .ne 5, 3) := by decide +kernel
theorem dX5_updateCopy_73 : decode cX5_updateCopy 73 = .ok (.iconst 0, 1) := by decide +kernel
theorem dX5_updateCopy_74 : decode cX5_updateCopy 74 = .ok (.ireturn, 1) := by decide +kernel
theorem dX5_updateCopy_75 : decode cX5_updateCopy 75 = .ok (.aload_n 1, 1) := by decide +kernel
theorem dX5_updateCopy_76 : decode cX5_updateCopy 76 = .ok (.aload_n 2, 1) := by decide +kernel
theorem dX5_updateCopy_77 : decode cX5_updateCopy 77 = .ok (.invokestatic 193, 3) := by decide +kernel
theorem dX5_updateCopy_80 : decode cX5_updateCopy 80 = .ok (.ifCond .ne 16, 3) := by decide +kernel
theorem dX5_updateCopy_83 : decode cX5_updateCopy 83 = .ok (.aload_n 1, 1) := by decide +kernel
theorem dX5_updateCopy_84 : decode cX5_updateCopy 84 = .ok (.iload_n 3, 1) := by decide +kernel
theorem dX5_updateCopy_85 : decode cX5_updateCopy 85 = .ok (.aload_n 2, 1) := by decide +kernel
theorem dX5_updateCopy_86 : decode cX5_updateCopy 86 = .ok (.getfield 163, 3) := by decide +kernel
theorem dX5_updateCopy_89 : decode cX5_updateCopy 89 = .ok (.iload_n 3, 1) := by decide +kernel
theorem dX5_updateCopy_90 : decode cX5_updateCopy 90 = .ok (.laload, 1) := by decide +kernel
theorem dX5_updateCopy_91 : decode cX5_updateCopy 91 = .ok (.invokevirtual 62, 3) := by decide +kernel
theorem dX5_updateCopy_94 : decode cX5_updateCopy 94 = .ok (.iconst 2, 1) := by decide +kernel
theorem dX5_updateCopy_95 : decode cX5_updateCopy 95 = .ok (.ireturn, 1) := by decide +kernel
theorem dX5_updateCopy_96 : decode cX5_updateCopy 96 = .ok (.aload_n 0, 1) := by decide +kernel
theorem dX5_updateCopy_97 : decode cX5_updateCopy 97 = .ok (.aload_n 1, 1) := by decide +kernel
theorem dX5_updateCopy_98 : decode cX5_updateCopy 98 = .ok (.aload_n 2, 1) := by decide +kernel
theorem dX5_updateCopy_99 : decode cX5_updateCopy 99 = .ok (.iload_n 3, 1) := by decide +kernel
theorem dX5_updateCopy_100 : decode cX5_updateCopy 100 = .ok (.invokevirtual 211, 3) := by decide +kernel
theorem dX5_updateCopy_103 : decode cX5_updateCopy 103 = .ok (.ireturn, 1) := by decide +kernel
theorem dX5_updateToNothing_0 : decode cX5_updateToNothing 0 = .ok (.aload_n 0, 1) := by decide +kernel
theorem dX5_updateToNothing_1 : decode cX5_updateToNothing 1 = .ok (.invokevirtual 52, 3) := by decide +kernel
theorem dX5_updateToNothing_4 : decode cX5_updateToNothing 4 = .ok (.ifCond .ne 5, 3) := by decide +kernel
theorem dX5_updateToNothing_7 : decode cX5_updateToNothing 7 = .ok (.iconst 0, 1) := by decide +kernel
theorem dX5_updateToNothing_8 : decode cX5_updateToNothing 8 = .ok (.ireturn, 1) := by decide +kernel
theorem dX5_updateToNothing_9 : decode cX5_updateToNothing 9 = .ok (.aload_n 0, 1) := by decide +kernel
theorem dX5_updateToNothing_10 : decode cX5_updateToNothing 10 = .ok (.getfield 89, 3) := by decide +kernel
theorem dX5_updateToNothing_13 : decode cX5_updateToNothing 13 = .ok (.ifCond .ne 13, 3) := by decide +kernel
theorem dX5_updateToNothing_16 : decode cX5_updateToNothing 16 = .ok (.aload_n 0, 1) := by decide +kernel
theorem dX5_updateToNothing_17 : decode cX5_updateToNothing 17 = .ok (.aload_n 1, 1) := by decide +kernel
theorem dX5_updateToNothing_18 : decode cX5_updateToNothing 18 = .ok (.invokestatic 193, 3) := by decide +kernel
theorem dX5_updateToNothing_21 : decode cX5_updateToNothing 21 = .ok (.ifCond .eq 5, 3) := by decide +kernel
theorem dX5_updateToNothing_24 : decode cX5_updateToNothing 24 = .ok (.iconst 3, 1) := by decide +kernel
theorem dX5_updateToNothing_25 : decode cX5_updateToNothing 25 = .ok (.ireturn, 1) := by decide +kernel
theorem dX5_updateToNothing_26 : decode cX5_updateToNothing 26 = .ok (.aload_n 0, 1) := by decide +kernel
theorem dX5_updateToNothing_27 : decode cX5_updateToNothing 27 = .ok (.invokevirtual 82, 3) := by decide +kernel
theorem dX5_updateToNothing_30 : decode cX5_updateToNothing 30 = .ok (.iconst 1, 1) := by decide +kernel
theorem dX5_updateToNothing_31 : decode cX5_updateToNothing 31 = .ok (.ireturn, 1) := by decide +kernel
theorem dX5_mergeInto_0 : decode cX5_mergeInto 0 = .ok (.aload_n 0, 1) := by decide +kernel
theorem dX5_mergeInto_1 : decode cX5_mergeInto 1 = .ok (.getfield 37, 3) := by decide +kernel
theorem dX5_mergeInto_4 : decode cX5_mergeInto 4 = .ok (.aload_n 2, 1) := by decide +kernel
theorem dX5_mergeInto_5 : decode cX5_mergeInto 5 = .ok (.getfield 163, 3) := by decide +kernel
theorem dX5_mergeInto_8 : decode cX5_mergeInto 8 = .ok (.aload_n 1, 1) := by decide +kernel
theorem dX5_mergeInto_9 : decode cX5_mergeInto 9 = .ok (.getfield 128, 3) := by decide +kernel
theorem dX5_mergeInto_12 : decode cX5_mergeInto 12 = .ok (.laload, 1) := by decide +kernel
theorem dX5_mergeInto_13 : decode cX5_mergeInto 13 = .ok (.aload_n 1, 1) := by decide +kernel
theorem dX5_mergeInto_14 : decode cX5_mergeInto 14 = .ok (.getfield 72, 3) := by decide +kernel
theorem dX5_mergeInto_17 : decode cX5_mergeInto 17 = .ok (.aload_n 2, 1) := by decide +kernel
theorem dX5_mergeInto_18 : decode cX5_mergeInto 18 = .ok (.getfield 163, 3) := by decide +kernel
theorem dX5_mergeInto_21 : decode cX5_mergeInto 21 = .ok (.iload_n 3, 1) := by decide +kernel
theorem dX5_mergeInto_22 : decode cX5_mergeInto 22 = .ok (.laload, 1) := by decide +kernel
theorem dX5_mergeInto_23 : decode cX5_mergeInto 23 = .ok (.invokevirtual 214, 3) := by decide +kernel
theorem dX5_mergeInto_26 : decode cX5_mergeInto 26 = .ok (.aload_n 0, 1) := by decide +kernel
theorem dX5_mergeInto_27 : decode cX5_mergeInto 27 = .ok (.getfield 37, 3) := by decide +kernel
theorem dX5_mergeInto_30 : decode cX5_mergeInto 30 = .ok (.invokevirtual 218, 3) := by decide +kernel
theorem dX5_mergeInto_33 : decode cX5_mergeInto 33 = .ok (.ifCond .eq 6, 3) := by decide +kernel
theorem dX5_mergeInto_36 : decode cX5_mergeInto 36 = .ok (.bipush (-7), 2) := by decide +kernel
theorem dX5_mergeInto_38 : decode cX5_mergeInto 38 = .ok (.ireturn, 1) := by decide +kernel
theorem dX5_mergeInto_39 : decode cX5_mergeInto 39 = .ok (.aload_n 1, 1) := by decide +kernel
theorem dX5_mergeInto_40 : decode cX5_mergeInto 40 = .ok (.iload_n 3, 1) := by decide +kernel
theorem dX5_mergeInto_41 : decode cX5_mergeInto 41 = .ok (.aload_n 0, 1) := by decide +kernel
theorem dX5_mergeInto_42 : decode cX5_mergeInto 42 = .ok (.getfield 37, 3) := by decide +kernel
theorem dX5_mergeInto_45 : decode cX5_mergeInto 45 = .ok (.getfield 221, 3) := by decide +kernel
theorem dX5_mergeInto_48 : decode cX5_mergeInto 48 = .ok (.invokevirtual 62, 3) := by decide +kernel
theorem dX5_mergeInto_51 : decode cX5_mergeInto 51 = .ok (.aload_n 0, 1) := by decide +kernel
theorem dX5_mergeInto_52 : decode cX5_mergeInto 52 = .ok (.getfield 37, 3) := by decide +kernel
theorem dX5_mergeInto_55 : decode cX5_mergeInto 55 = .ok (.getfield 222, 3) := by decide +kernel
theorem dX5_mergeInto_58 : decode cX5_mergeInto 58 = .ok (.ifCond .eq 7, 3) := by decide +kernel
theorem dX5_mergeInto_61 : decode cX5_mergeInto 61 = .ok (.iconst 5, 1) := by decide +kernel
theorem dX5_mergeInto_62 : decode cX5_mergeInto 62 = .ok (.goto 4, 3) := by decide +kernel
theorem dX5_mergeInto_65 : decode cX5_mergeInto 65 = .ok (.iconst 4, 1) := by decide +kernel
theorem dX5_mergeInto_66 : decode cX5_mergeInto 66 = .ok (.ireturn, 1) := by decide +kernel
theorem dX3_merge_0 : decode cX3_merge 0 = .ok (.aload_n 0, 1) := by decide +kernel
theorem dX3_merge_1 : decode cX3_merge 1 = .ok (.getfield 12, 3) := by decide +kernel
theorem dX3_merge_4 : decode cX3_merge 4 = .ok (.lload_n 1, 1) := by decide +kernel
theorem dX3_merge_5 : decode cX3_merge 5 = .ok (.lload_n 3, 1) := by decide +kernel
theorem dX3_merge_6 : decode cX3_merge 6 = .ok (.invokevirtual 35, 3) := by decide +kernel
theorem dX3_merge_9 : decode cX3_merge 9 = .ok (.aload_n 0, 1) := by decide +kernel
theorem dX3_merge_10 : decode cX3_merge 10 = .ok (.getfield 18, 3) := by decide +kernel
theorem dX3_merge_13 : decode cX3_merge 13 = .ok (.lload_n 1, 1) := by decide +kernel
theorem dX3_merge_14 : decode cX3_merge 14 = .ok (.lload 5, 2) := by decide +kernel
theorem dX3_merge_16 : decode cX3_merge 16 = .ok (.invokevirtual 35, 3) := by decide +kernel
theorem dX3_merge_19 : decode cX3_merge 19 = .ok (.aload_n 0, 1) := by decide +kernel
theorem dX3_merge_20 : decode cX3_merge 20 = .ok (.lconst 0, 1) := by decide +kernel
theorem dX3_merge_21 : decode cX3_merge 21 = .ok (.putfield 23, 3) := by decide +kernel
theorem dX3_merge_24 : decode cX3_merge 24 = .ok (.aload_n 0, 1) := by decide +kernel
theorem dX3_merge_25 : decode cX3_merge 25 = .ok (.iconst 0, 1) := by decide +kernel
theorem dX3_merge_26 : decode cX3_merge 26 = .ok (.putfield 27, 3) := by decide +kernel
theorem dX3_merge_29 : decode cX3_merge 29 = .ok (.aload_n 0, 1) := by decide +kernel
theorem dX3_merge_30 : decode cX3_merge 30 = .ok (.iconst 0, 1) := by decide +kernel
theorem dX3_merge_31 : decode cX3_merge 31 = .ok (.putfield 31, 3) := by decide +kernel
theorem dX3_merge_34 : decode cX3_merge 34 = .ok (.iconst 0, 1) := by decide +kernel
theorem dX3_merge_35 : decode cX3_merge 35 = .ok (.istore 7, 2) := by decide +kernel
theorem dX3_merge_37 : decode cX3_merge 37 = .ok (.iconst 0, 1) := by decide +kernel
theorem dX3_merge_38 : decode cX3_merge 38 = .ok (.istore 8, 2) := by decide +kernel
theorem dX3_merge_40 : decode cX3_merge 40 = .ok (.iconst 0, 1) := by decide +kernel
theorem dX3_merge_41 : decode cX3_merge 41 = .ok (.istore 9, 2) := by decide +kernel
theorem dX3_merge_43 : decode cX3_merge 43 = .ok (.iconst 0, 1) := by decide +kernel
theorem dX3_merge_44 : decode cX3_merge 44 = .ok (.istore 10, 2) := by decide +kernel
theorem dX3_merge_46 : decode cX3_merge 46 = .ok (.iload 10, 2) := by decide +kernel
theorem dX3_merge_48 : decode cX3_merge 48 = .ok (.aload_n 0, 1) := by decide +kernel
theorem dX3_merge_49 : decode cX3_merge 49 = .ok (.getfield 12, 3) := by decide +kernel
theorem dX3_merge_52 : decode cX3_merge 52 = .ok (.getfield 39, 3) := by decide +kernel
theorem dX3_merge_55 : decode cX3_merge 55 = .ok (.if_icmp .ge 93, 3) := by decide +kernel
theorem dX3_merge_58 : decode cX3_merge 58 = .ok (.aload_n 0, 1) := by decide +kernel
theorem dX3_merge_59 : decode cX3_merge 59 = .ok (.getfield 12, 3) := by decide +kernel
theorem dX3_merge_62 : decode cX3_merge 62 = .ok (.getfield 42, 3) := by decide +kernel
theorem dX3_merge_65 : decode cX3_merge 65 = .ok (.iload 10, 2) := by decide +kernel
theorem dX3_merge_67 : decode cX3_merge 67 = .ok (.iaload, 1) := by decide +kernel
theorem dX3_merge_68 : decode cX3_merge 68 = .ok (.istore 11, 2) := by decide +kernel
theorem dX3_merge_70 : decode cX3_merge 70 = .ok (.aload_n 0, 1) := by decide +kernel
theorem dX3_merge_71 : decode cX3_merge 71 = .ok (.getfield 18, 3) := by decide +kernel
theorem dX3_merge_74 : decode cX3_merge 74 = .ok (.getfield 42, 3) := by decide +kernel
theorem dX3_merge_77 : decode cX3_merge 77 = .ok (.iload 10, 2) := by decide +kernel
theorem dX3_merge_79 : decode cX3_merge 79 = .ok (.iaload, 1) := by decide +kernel
theorem dX3_merge_80 : decode cX3_merge 80 = .ok (.istore 12, 2) := by decide +kernel
theorem dX3_merge_82 : decode cX3_merge 82 = .ok (.iload 11, 2) := by decide +kernel
theorem dX3_merge_84 : decode cX3_merge 84 = .ok (.iconst (-1), 1) := by decide +kernel
theorem dX3_merge_85 : decode cX3_merge 85 = .ok (.if_icmp .eq 57, 3) := by decide +kernel
theorem dX3_merge_88 : decode cX3_merge 88 = .ok (.iload 12, 2) := by decide +kernel
theorem dX3_merge_90 : decode cX3_merge 90 = .ok (.iconst (-1), 1) := by decide +kernel
theorem dX3_merge_91 : decode cX3_merge 91 = .ok (.if_icmp .eq 51, 3) := by decide +kernel
theorem dX3_merge_94 : decode cX3_merge 94 = .ok (.aload_n 0, 1) := by decide +kernel
theorem dX3_merge_95 : decode cX3_merge 95 = .ok (.iload 7, 2) := by decide +kernel
theorem dX3_merge_97 : decode cX3_merge 97 = .ok (.iload 10, 2) := by decide +kernel
theorem dX3_merge_99 : decode cX3_merge 99 = .ok (.iload 8, 2) := by decide +kernel
theorem dX3_merge_101 : decode cX3_merge 101 = .ok (.iload 11, 2) := by decide +kernel
theorem dX3_merge_103 : decode cX3_merge 103 = .ok (.iload 9, 2) := by decide +kernel
theorem dX3_merge_105 : decode cX3_merge 105 = .ok (.iload 12, 2) := by decide +kernel
theorem dX3_merge_107 : decode cX3_merge 107 = .ok (.invokevirtual 46, 3) := by decide +kernel
theorem dX3_merge_110 : decode cX3_merge 110 = .ok (.aload_n 0, 1) := by decide +kernel
theorem dX3_merge_111 : decode cX3_merge 111 = .ok (.aload_n 0, 1) := by decide +kernel
theorem dX3_merge_112 : decode cX3_merge 112 = .ok (.getfield 12, 3) := by decide +kernel
theorem dX3_merge_115 : decode cX3_merge 115 = .ok (.getfield 50, 3) := by decide +kernel
theorem dX3_merge_118 : decode cX3_merge 118 = .ok (.iload 10, 2) := by decide +kernel
theorem dX3_merge_120 : decode cX3_merge 120 = .ok (.iaload, 1) := by decide +kernel
theorem dX3_merge_121 : decode cX3_merge 121 = .ok (.invokevirtual 53, 3) := by decide +kernel
theorem dX3_merge_124 : decode cX3_merge 124 = .ok (.iload 10, 2) := by decide +kernel
theorem dX3_merge_126 : decode cX3_merge 126 = .ok (.iconst 1, 1) := by decide +kernel
theorem dX3_merge_127 : decode cX3_merge 127 = .ok (.iadd, 1) := by decide +kernel
theorem dX3_merge_128 : decode cX3_merge 128 = .ok (.istore 7, 2) := by decide +kernel
theorem dX3_merge_130 : decode cX3_merge 130 = .ok (.iload 11, 2) := by decide +kernel
theorem dX3_merge_132 : decode cX3_merge 132 = .ok (.iconst 1, 1) := by decide +kernel
theorem dX3_merge_133 : decode cX3_merge 133 = .ok (.iadd, 1) := by decide +kernel
theorem dX3_merge_134 : decode cX3_merge 134 = .ok (.istore 8, 2) := by decide +kernel
theorem dX3_merge_136 : decode cX3_merge 136 = .ok (.iload 12, 2) := by decide +kernel
theorem dX3_merge_138 : decode cX3_merge 138 = .ok (.iconst 1, 1) := by decide +kernel
theorem dX3_merge_139 : decode cX3_merge 139 = .ok (.iadd, 1) := by decide +kernel
theorem dX3_merge_140 : decode cX3_merge 140 = .ok (.istore 9, 2) := by decide +kernel
theorem dX3_merge_142 : decode cX3_merge 142 = .ok (.iinc 10 1, 3) := by decide +kernel
theorem dX3_merge_145 : decode cX3_merge 145 = .ok (.goto (-99), 3) := by decide +kernel
theorem dX3_merge_148 : decode cX3_merge 148 = .ok (.aload_n 0, 1) := by decide +kernel
theorem dX3_merge_149 : decode cX3_merge 149 = .ok (.iload 7, 2) := by decide +kernel
theorem dX3_merge_151 : decode cX3_merge 151 = .ok (.aload_n 0, 1) := by decide +kernel
theorem dX3_merge_152 : decode cX3_merge 152 = .ok (.getfield 12, 3) := by decide +kernel
theorem dX3_merge_155 : decode cX3_merge 155 = .ok (.getfield 39, 3) := by decide +kernel
theorem dX3_merge_158 : decode cX3_merge 158 = .ok (.iload 8, 2) := by decide +kernel
theorem dX3_merge_160 : decode cX3_merge 160 = .ok (.aload_n 0, 1) := by decide +kernel
theorem dX3_merge_161 : decode cX3_merge 161 = .ok (.getfield 12, 3) := by decide +kernel
theorem dX3_merge_164 : decode cX3_merge 164 = .ok (.getfield 57, 3) := by decide +kernel
theorem dX3_merge_167 : decode cX3_merge 167 = .ok (.iload 9, 2) := by decide +kernel
theorem dX3_merge_169 : decode cX3_merge 169 = .ok (.aload_n 0, 1) := by decide +kernel
theorem dX3_merge_170 : decode cX3_merge 170 = .ok (.getfield 18, 3) := by decide +kernel
theorem dX3_merge_173 : decode cX3_merge 173 = .ok (.getfield 57, 3) := by decide +kernel
theorem dX3_merge_176 : decode cX3_merge 176 = .ok (.invokevirtual 46, 3) := by decide +kernel
theorem dX3_merge_179 : decode cX3_merge 179 = .ok (.return_, 1) := by decide +kernel
theorem dX1_compare_0 : decode cX1_compare 0 = .ok (.aload_n 0, 1) := by decide +kernel
theorem dX1_compare_1 : decode cX1_compare 1 = .ok (.lload_n 1, 1) := by decide +kernel
theorem dX1_compare_2 : decode cX1_compare 2 = .ok (.aload_n 0, 1) := by decide +kernel
theorem dX1_compare_3 : decode cX1_compare 3 = .ok (.getfield 9, 3) := by decide +kernel
theorem dX1_compare_6 : decode cX1_compare 6 = .ok (.invokestatic 36, 3) := by decide +kernel
theorem dX1_compare_9 : decode cX1_compare 9 = .ok (.putfield 18, 3) := by decide +kernel
theorem dX1_compare_12 : decode cX1_compare 12 = .ok (.aload_n 0, 1) := by decide +kernel
theorem dX1_compare_13 : decode cX1_compare 13 = .ok (.lload_n 3, 1) := by decide +kernel
theorem dX1_compare_14 : decode cX1_compare 14 = .ok (.aload_n 0, 1) := by decide +kernel
theorem dX1_compare_15 : decode cX1_compare 15 = .ok (.getfield 15, 3) := by decide +kernel
theorem dX1_compare_18 : decode cX1_compare 18 = .ok (.invokestatic 36, 3) := by decide +kernel
theorem dX1_compare_21 : decode cX1_compare 21 = .ok (.putfield 22, 3) := by decide +kernel
theorem dX1_compare_24 : decode cX1_compare 24 = .ok (.aload_n 0, 1) := by decide +kernel
theorem dX1_compare_25 : decode cX1_compare 25 = .ok (.invokevirtual 42, 3) := by decide +kernel
theorem dX1_compare_28 : decode cX1_compare 28 = .ok (.aload_n 0, 1) := by decide +kernel
theorem dX1_compare_29 : decode cX1_compare 29 = .ok (.invokevirtual 45, 3) := by decide +kernel
theorem dX1_compare_32 : decode cX1_compare 32 = .ok (.return_, 1) := by decide +kernel
theorem dX4_spread_0 : decode cX4_spread 0 = .ok (.lload_n 0, 1) := by decide +kernel
theorem dX4_spread_1 : decode cX4_spread 1 = .ok (.invokestatic 24, 3) := by decide +kernel
theorem dX4_spread_4 : decode cX4_spread 4 = .ok (.istore_n 3, 1) := by decide +kernel
theorem dX4_spread_5 : decode cX4_spread 5 = .ok (.lload_n 0, 1) := by decide +kernel
theorem dX4_spread_6 : decode cX4_spread 6 = .ok (.lstore 4, 2) := by decide +kernel
theorem dX4_spread_8 : decode cX4_spread 8 = .ok (.iload_n 3, 1) := by decide +kernel
theorem dX4_spread_9 : decode cX4_spread 9 = .ok (.iconst 1, 1) := by decide +kernel
theorem dX4_spread_10 : decode cX4_spread 10 = .ok (.isub, 1) := by decide +kernel
theorem dX4_spread_11 : decode cX4_spread 11 = .ok (.istore 6, 2) := by decide +kernel
theorem dX4_spread_13 : decode cX4_spread 13 = .ok (.iload 6, 2) := by decide +kernel
theorem dX4_spread_15 : decode cX4_spread 15 = .ok (.ifCond .lt 28, 3) := by decide +kernel
theorem dX4_spread_18 : decode cX4_spread 18 = .ok (.aload_n 2, 1) := by decide +kernel
theorem dX4_spread_19 : decode cX4_spread 19 = .ok (.iload 6, 2) := by decide +kernel
theorem dX4_spread_21 : decode cX4_spread 21 = .ok (.lload 4, 2) := by decide +kernel
theorem dX4_spread_23 : decode cX4_spread 23 = .ok (.ldc2_w 11, 3) := by decide +kernel
theorem dX4_spread_26 : decode cX4_spread 26 = .ok (.lrem, 1) := by decide +kernel
theorem dX4_spread_27 : decode cX4_spread 27 = .ok (.l2i, 1) := by decide +kernel
theorem dX4_spread_28 : decode cX4_spread 28 = .ok (.iastore, 1) := by decide +kernel
theorem dX4_spread_29 : decode cX4_spread 29 = .ok (.lload 4, 2) := by decide +kernel
theorem dX4_spread_31 : decode cX4_spread 31 = .ok (.ldc2_w 11, 3) := by decide +kernel
theorem dX4_spread_34 : decode cX4_spread 34 = .ok (.ldiv, 1) := by decide +kernel
theorem dX4_spread_35 : decode cX4_spread 35 = .ok (.lstore 4, 2) := by decide +kernel
theorem dX4_spread_37 : decode cX4_spread 37 = .ok (.iinc 6 (-1), 3) := by decide +kernel
theorem dX4_spread_40 : decode cX4_spread 40 = .ok (.goto (-27), 3) := by decide +kernel
theorem dX4_spread_43 : decode cX4_spread 43 = .ok (.iload_n 3, 1) := by decide +kernel
theorem dX4_spread_44 : decode cX4_spread 44 = .ok (.ireturn, 1) := by decide +kernel
theorem dX4_lineCount_0 : decode cX4_lineCount 0 = .ok (.iconst 0, 1) := by decide +kernel
theorem dX4_lineCount_1 : decode cX4_lineCount 1 = .ok (.istore_n 2, 1) := by decide +kernel
theorem dX4_lineCount_2 : decode cX4_lineCount 2 = .ok (.lload_n 0, 1) := by decide +kernel
theorem dX4_lineCount_3 : decode cX4_lineCount 3 = .ok (.lstore_n 3, 1) := by decide +kernel
theorem dX4_lineCount_4 : decode cX4_lineCount 4 = .ok (.iload_n 2, 1) := by decide +kernel
theorem dX4_lineCount_5 : decode cX4_lineCount 5 = .ok (.bipush 12, 2) := by decide +kernel
theorem dX4_lineCount_7 : decode cX4_lineCount 7 = .ok (.if_icmp .ge 21, 3) := by decide +kernel
theorem dX4_lineCount_10 : decode cX4_lineCount 10 = .ok (.lload_n 3, 1) := by decide +kernel
theorem dX4_lineCount_11 : decode cX4_lineCount 11 = .ok (.lconst 0, 1) := by decide +kernel
theorem dX4_lineCount_12 : decode cX4_lineCount 12 = .ok (.lcmp, 1) := by decide +kernel
theorem dX4_lineCount_13 : decode cX4_lineCount 13 = .ok (.ifCond .le 15, 3) := by decide +kernel
theorem dX4_lineCount_16 : decode cX4_lineCount 16 = .ok (.lload_n 3, 1) := by decide +kernel
theorem dX4_lineCount_17 : decode cX4_lineCount 17 = .ok (.ldc2_w 11, 3) := by decide +kernel
theorem dX4_lineCount_20 : decode cX4_lineCount 20 = .ok (.ldiv, 1) := by decide +kernel
theorem dX4_lineCount_21 : decode cX4_lineCount 21 = .ok (.lstore_n 3, 1) := by decide +kernel
theorem dX4_lineCount_22 : decode cX4_lineCount 22 = .ok (.iinc 2 1, 3) := by decide +kernel
theorem dX4_lineCount_25 : decode cX4_lineCount 25 = .ok (.goto (-21), 3) := by decide +kernel
theorem dX4_lineCount_28 : decode cX4_lineCount 28 = .ok (.iload_n 2, 1) := by decide +kernel
theorem dX4_lineCount_29 : decode cX4_lineCount 29 = .ok (.ireturn, 1) := by decide +kernel
theorem dX1_measureRests_0 : decode cX1_measureRests 0 = .ok (.aload_n 0, 1) := by decide +kernel
theorem dX1_measureRests_1 : decode cX1_measureRests 1 = .ok (.getfield 18, 3) := by decide +kernel
theorem dX1_measureRests_4 : decode cX1_measureRests 4 = .ok (.istore_n 1, 1) := by decide +kernel
theorem dX1_measureRests_5 : decode cX1_measureRests 5 = .ok (.iload_n 1, 1) := by decide +kernel
theorem dX1_measureRests_6 : decode cX1_measureRests 6 = .ok (.ifCond .lt 123, 3) := by decide +kernel
theorem dX1_measureRests_9 : decode cX1_measureRests 9 = .ok (.aload_n 0, 1) := by decide +kernel
theorem dX1_measureRests_10 : decode cX1_measureRests 10 = .ok (.getfield 22, 3) := by decide +kernel
theorem dX1_measureRests_13 : decode cX1_measureRests 13 = .ok (.istore_n 2, 1) := by decide +kernel
theorem dX1_measureRests_14 : decode cX1_measureRests 14 = .ok (.iload_n 2, 1) := by decide +kernel
theorem dX1_measureRests_15 : decode cX1_measureRests 15 = .ok (.ifCond .lt 108, 3) := by decide +kernel
theorem dX1_measureRests_18 : decode cX1_measureRests 18 = .ok (.iload_n 1, 1) := by decide +kernel
theorem dX1_measureRests_19 : decode cX1_measureRests 19 = .ok (.aload_n 0, 1) := by decide +kernel
theorem dX1_measureRests_20 : decode cX1_measureRests 20 = .ok (.getfield 18, 3) := by decide +kernel
theorem dX1_measureRests_23 : decode cX1_measureRests 23 = .ok (.if_icmp .eq 11, 3) := by decide +kernel
theorem dX1_measureRests_26 : decode cX1_measureRests 26 = .ok (.iload_n 2, 1) := by decide +kernel
theorem dX1_measureRests_27 : decode cX1_measureRests 27 = .ok (.aload_n 0, 1) := by decide +kernel
theorem dX1_measureRests_28 : decode cX1_measureRests 28 = .ok (.getfield 22, 3) := by decide +kernel
theorem dX1_measureRests_31 : decode cX1_measureRests 31 = .ok (.if_icmp .ne 15, 3) := by decide +kernel
theorem dX1_measureRests_34 : decode cX1_measureRests 34 = .ok (.aload_n 0, 1) := by decide +kernel
theorem dX1_measureRests_35 : decode cX1_measureRests 35 = .ok (.getfield 27, 3) := by decide +kernel
theorem dX1_measureRests_38 : decode cX1_measureRests 38 = .ok (.iload_n 1, 1) := by decide +kernel
theorem dX1_measureRests_39 : decode cX1_measureRests 39 = .ok (.aaload, 1) := by decide +kernel
theorem dX1_measureRests_40 : decode cX1_measureRests 40 = .ok (.iload_n 2, 1) := by decide +kernel
theorem dX1_measureRests_41 : decode cX1_measureRests 41 = .ok (.iconst 0, 1) := by decide +kernel
theorem dX1_measureRests_42 : decode cX1_measureRests 42 = .ok (.iastore, 1) := by decide +kernel
theorem dX1_measureRests_43 : decode cX1_measureRests 43 = .ok (.goto 74, 3) := by decide +kernel
theorem dX1_measureRests_46 : decode cX1_measureRests 46 = .ok (.aload_n 0, 1) := by decide +kernel
theorem dX1_measureRests_47 : decode cX1_measureRests 47 = .ok (.getfield 9, 3) := by decide +kernel
theorem dX1_measureRests_50 : decode cX1_measureRests 50 = .ok (.iload_n 1, 1) := by decide +kernel
theorem dX1_measureRests_51 : decode cX1_measureRests 51 = .ok (.iaload, 1) := by decide +kernel
theorem dX1_measureRests_52 : decode cX1_measureRests 52 = .ok (.aload_n 0, 1) := by decide +kernel
theorem dX1_measureRests_53 : decode cX1_measureRests 53 = .ok (.getfield 15, 3) := by decide +kernel
theorem dX1_measureRests_56 : decode cX1_measureRests 56 = .ok (.iload_n 2, 1) := by decide +kernel
theorem dX1_measureRests_57 : decode cX1_measureRests 57 = .ok (.iaload, 1) := by decide +kernel
theorem dX1_measureRests_58 : decode cX1_measureRests 58 = .ok (.if_icmp .ne 28, 3) := by decide +kernel
theorem dX1_measureRests_61 : decode cX1_measureRests 61 = .ok (.aload_n 0, 1) := by decide +kernel
theorem dX1_measureRests_62 : decode cX1_measureRests 62 = .ok (.getfield 27, 3) := by decide +kernel
theorem dX1_measureRests_65 : decode cX1_measureRests 65 = .ok (.iload_n 1, 1) := by decide +kernel
theorem dX1_measureRests_66 : decode cX1_measureRests 66 = .ok (.aaload, 1) := by decide +kernel
theorem dX1_measureRests_67 : decode cX1_measureRests 67 = .ok (.iload_n 2, 1) := by decide +kernel
theorem dX1_measureRests_68 : decode cX1_measureRests 68 = .ok (.iconst 1, 1) := by decide +kernel
theorem dX1_measureRests_69 : decode cX1_measureRests 69 = .ok (.aload_n 0, 1) := by decide +kernel
theorem dX1_measureRests_70 : decode cX1_measureRests 70 = .ok (.getfield 27, 3) := by decide +kernel
theorem dX1_measureRests_73 : decode cX1_measureRests 73 = .ok (.iload_n 1, 1) := by decide +kernel
theorem dX1_measureRests_74 : decode cX1_measureRests 74 = .ok (.iconst 1, 1) := by decide +kernel
theorem dX1_measureRests_75 : decode cX1_measureRests 75 = .ok (.iadd, 1) := by decide +kernel
theorem dX1_measureRests_76 : decode cX1_measureRests 76 = .ok (.aaload, 1) := by decide +kernel
theorem dX1_measureRests_77 : decode cX1_measureRests 77 = .ok (.iload_n 2, 1) := by decide +kernel
theorem dX1_measureRests_78 : decode cX1_measureRests 78 = .ok (.iconst 1, 1) := by decide +kernel
theorem dX1_measureRests_79 : decode cX1_measureRests 79 = .ok (.iadd, 1) := by decide +kernel
theorem dX1_measureRests_80 : decode cX1_measureRests 80 = .ok (.iaload, 1) := by decide +kernel
theorem dX1_measureRests_81 : decode cX1_measureRests 81 = .ok (.iadd, 1) := by decide +kernel
theorem dX1_measureRests_82 : decode cX1_measureRests 82 = .ok (.iastore, 1) := by decide +kernel
theorem dX1_measureRests_83 : decode cX1_measureRests 83 = .ok (.goto 34, 3) := by decide +kernel
theorem dX1_measureRests_86 : decode cX1_measureRests 86 = .ok (.aload_n 0, 1) := by decide +kernel
theorem dX1_measureRests_87 : decode cX1_measureRests 87 = .ok (.getfield 27, 3) := by decide +kernel
theorem dX1_measureRests_90 : decode cX1_measureRests 90 = .ok (.iload_n 1, 1) := by decide +kernel
theorem dX1_measureRests_91 : decode cX1_measureRests 91 = .ok (.aaload, 1) := by decide +kernel
theorem dX1_measureRests_92 : decode cX1_measureRests 92 = .ok (.iload_n 2, 1) := by decide +kernel
theorem dX1_measureRests_93 : decode cX1_measureRests 93 = .ok (.aload_n 0, 1) := by decide +kernel
theorem dX1_measureRests_94 : decode cX1_measureRests 94 = .ok (.getfield 27, 3) := by decide +kernel
theorem dX1_measureRests_97 : decode cX1_measureRests 97 = .ok (.iload_n 1, 1) := by decide +kernel
theorem dX1_measureRests_98 : decode cX1_measureRests 98 = .ok (.iconst 1, 1) := by decide +kernel
theorem dX1_measureRests_99 : decode cX1_measureRests 99 = .ok (.iadd, 1) := by decide +kernel
theorem dX1_measureRests_100 : decode cX1_measureRests 100 = .ok (.aaload, 1) := by decide +kernel
theorem dX1_measureRests_101 : decode cX1_measureRests 101 = .ok (.iload_n 2, 1) := by decide +kernel
theorem dX1_measureRests_102 : decode cX1_measureRests 102 = .ok (.iaload, 1) := by decide +kernel
theorem dX1_measureRests_103 : decode cX1_measureRests 103 = .ok (.aload_n 0, 1) := by decide +kernel
theorem dX1_measureRests_104 : decode cX1_measureRests 104 = .ok (.getfield 27, 3) := by decide +kernel
theorem dX1_measureRests_107 : decode cX1_measureRests 107 = .ok (.iload_n 1, 1) := by decide +kernel
theorem dX1_measureRests_108 : decode cX1_measureRests 108 = .ok (.aaload, 1) := by decide +kernel
theorem dX1_measureRests_109 : decode cX1_measureRests 109 = .ok (.iload_n 2, 1) := by decide +kernel
theorem dX1_measureRests_110 : decode cX1_measureRests 110 = .ok (.iconst 1, 1) := by decide +kernel
theorem dX1_measureRests_111 : decode cX1_measureRests 111 = .ok (.iadd, 1) := by decide +kernel
theorem dX1_measureRests_112 : decode cX1_measureRests 112 = .ok (.iaload, 1) := by decide +kernel
theorem dX1_measureRests_113 : decode cX1_measureRests 113 = .ok (.invokestatic 48, 3) := by decide +kernel
theorem dX1_measureRests_116 : decode cX1_measureRests 116 = .ok (.iastore, 1) := by decide +kernel
theorem dX1_measureRests_117 : decode cX1_measureRests 117 = .ok (.iinc 2 (-1), 3) := by decide +kernel
theorem dX1_measureRests_120 : decode cX1_measureRests 120 = .ok (.goto (-106), 3) := by decide +kernel
theorem dX1_measureRests_123 : decode cX1_measureRests 123 = .ok (.iinc 1 (-1), 3) := by decide +kernel
theorem dX1_measureRests_126 : decode cX1_measureRests 126 = .ok (.goto (-121), 3) := by decide +kernel
theorem dX1_measureRests_129 : decode cX1_measureRests 129 = .ok (.return_, 1) := by decide +kernel
theorem dX1_pairLines_0 : decode cX1_pairLines 0 = .ok (.aload_n 0, 1) := by decide +kernel
theorem dX1_pairLines_1 : decode cX1_pairLines 1 = .ok (.getfield 30, 3) := by decide +kernel
theorem dX1_pairLines_4 : decode cX1_pairLines 4 = .ok (.iconst (-1), 1) := by decide +kernel
theorem dX1_pairLines_5 : decode cX1_pairLines 5 = .ok (.invokestatic 54, 3) := by decide +kernel
theorem dX1_pairLines_8 : decode cX1_pairLines 8 = .ok (.aload_n 0, 1) := by decide +kernel
theorem dX1_pairLines_9 : decode cX1_pairLines 9 = .ok (.iconst 0, 1) := by decide +kernel
theorem dX1_pairLines_10 : decode cX1_pairLines 10 = .ok (.putfield 33, 3) := by decide +kernel
theorem dX1_pairLines_13 : decode cX1_pairLines 13 = .ok (.iconst 0, 1) := by decide +kernel
theorem dX1_pairLines_14 : decode cX1_pairLines 14 = .ok (.istore_n 1, 1) := by decide +kernel
theorem dX1_pairLines_15 : decode cX1_pairLines 15 = .ok (.iconst 0, 1) := by decide +kernel
theorem dX1_pairLines_16 : decode cX1_pairLines 16 = .ok (.istore_n 2, 1) := by decide +kernel
theorem dX1_pairLines_17 : decode cX1_pairLines 17 = .ok (.iload_n 1, 1) := by decide +kernel
theorem dX1_pairLines_18 : decode cX1_pairLines 18 = .ok (.aload_n 0, 1) := by decide +kernel
theorem dX1_pairLines_19 : decode cX1_pairLines 19 = .ok (.getfield 18, 3) := by decide +kernel
theorem dX1_pairLines_22 : decode cX1_pairLines 22 = .ok (.if_icmp .ge 87, 3) := by decide +kernel
theorem dX1_pairLines_25 : decode cX1_pairLines 25 = .ok (.iload_n 2, 1) := by decide +kernel
theorem dX1_pairLines_26 : decode cX1_pairLines 26 = .ok (.aload_n 0, 1) := by decide +kernel
theorem dX1_pairLines_27 : decode cX1_pairLines 27 = .ok (.getfield 22, 3) := by decide +kernel
theorem dX1_pairLines_30 : decode cX1_pairLines 30 = .ok (.if_icmp .ge 79, 3) := by decide +kernel
theorem dX1_pairLines_33 : decode cX1_pairLines 33 = .ok (.aload_n 0, 1) := by decide +kernel
theorem dX1_pairLines_34 : decode cX1_pairLines 34 = .ok (.getfield 9, 3) := by decide +kernel
theorem dX1_pairLines_37 : decode cX1_pairLines 37 = .ok (.iload_n 1, 1) := by decide +kernel
theorem dX1_pairLines_38 : decode cX1_pairLines 38 = .ok (.iaload, 1) := by decide +kernel
theorem dX1_pairLines_39 : decode cX1_pairLines 39 = .ok (.aload_n 0, 1) := by decide +kernel
theorem dX1_pairLines_40 : decode cX1_pairLines 40 = .ok (.getfield 15, 3) := by decide +kernel
theorem dX1_pairLines_43 : decode cX1_pairLines 43 = .ok (.iload_n 2, 1) := by decide +kernel
theorem dX1_pairLines_44 : decode cX1_pairLines 44 = .ok (.iaload, 1) := by decide +kernel
theorem dX1_pairLines_45 : decode cX1_pairLines 45 = .ok (.if_icmp .ne 29, 3) := by decide +kernel
theorem dX1_pairLines_48 : decode cX1_pairLines 48 = .ok (.aload_n 0, 1) := by decide +kernel
theorem dX1_pairLines_49 : decode cX1_pairLines 49 = .ok (.getfield 30, 3) := by decide +kernel
theorem dX1_pairLines_52 : decode cX1_pairLines 52 = .ok (.iload_n 1, 1) := by decide +kernel
theorem dX1_pairLines_53 : decode cX1_pairLines 53 = .ok (.iload_n 2, 1) := by decide +kernel
theorem dX1_pairLines_54 : decode cX1_pairLines 54 = .ok (.iastore, 1) := by decide +kernel
theorem dX1_pairLines_55 : decode cX1_pairLines 55 = .ok (.aload_n 0, 1) := by decide +kernel
theorem dX1_pairLines_56 : decode cX1_pairLines 56 = .ok (.dup, 1) := by decide +kernel
theorem dX1_pairLines_57 : decode cX1_pairLines 57 = .ok (.getfield 33, 3) := by decide +kernel
theorem dX1_pairLines_60 : decode cX1_pairLines 60 = .ok (.iconst 1, 1) := by decide +kernel
theorem dX1_pairLines_61 : decode cX1_pairLines 61 = .ok (.iadd, 1) := by decide +kernel
theorem dX1_pairLines_62 : decode cX1_pairLines 62 = .ok (.putfield 33, 3) := by decide +kernel
theorem dX1_pairLines_65 : decode cX1_pairLines 65 = .ok (.iinc 1 1, 3) := by decide +kernel
theorem dX1_pairLines_68 : decode cX1_pairLines 68 = .ok (.iinc 2 1, 3) := by decide +kernel
theorem dX1_pairLines_71 : decode cX1_pairLines 71 = .ok (.goto (-54), 3) := by decide +kernel
theorem dX1_pairLines_74 : decode cX1_pairLines 74 = .ok (.aload_n 0, 1) := by decide +kernel
theorem dX1_pairLines_75 : decode cX1_pairLines 75 = .ok (.getfield 27, 3) := by decide +kernel
theorem dX1_pairLines_78 : decode cX1_pairLines 78 = .ok (.iload_n 1, 1) := by decide +kernel
theorem dX1_pairLines_79 : decode cX1_pairLines 79 = .ok (.iconst 1, 1) := by decide +kernel
theorem dX1_pairLines_80 : decode cX1_pairLines 80 = .ok (.iadd, 1) := by decide +kernel
theorem dX1_pairLines_81 : decode cX1_pairLines 81 = .ok (.aaload, 1) := by decide +kernel
theorem dX1_pairLines_82 : decode cX1_pairLines 82 = .ok (.iload_n 2, 1) := by decide +kernel
theorem dX1_pairLines_83 : decode cX1_pairLines 83 = .ok (.iaload, 1) := by decide +kernel
theorem dX1_pairLines_84 : decode cX1_pairLines 84 = .ok (.aload_n 0, 1) := by decide +kernel
theorem dX1_pairLines_85 : decode cX1_pairLines 85 = .ok (.getfield 27, 3) := by decide +kernel
theorem dX1_pairLines_88 : decode cX1_pairLines 88 = .ok (.iload_n 1, 1) := by decide +kernel
theorem dX1_pairLines_89 : decode cX1_pairLines 89 = .ok (.aaload, 1) := by decide +kernel
theorem dX1_pairLines_90 : decode cX1_pairLines 90 = .ok (.iload_n 2, 1) := by decide +kernel
theorem dX1_pairLines_91 : decode cX1_pairLines 91 = .ok (.iconst 1, 1) := by decide +kernel
theorem dX1_pairLines_92 : decode cX1_pairLines 92 = .ok (.iadd, 1) := by decide +kernel
theorem dX1_pairLines_93 : decode cX1_pairLines 93 = .ok (.iaload, 1) := by decide +kernel
theorem dX1_pairLines_94 : decode cX1_pairLines 94 = .ok (.if_icmp .lt 9, 3) := by decide +kernel
theorem dX1_pairLines_97 : decode cX1_pairLines 97 = .ok (.iinc 1 1, 3) := by decide +kernel
theorem dX1_pairLines_100 : decode cX1_pairLines 100 = .ok (.goto (-83), 3) := by decide +kernel
theorem dX1_pairLines_103 : decode cX1_pairLines 103 = .ok (.iinc 2 1, 3) := by decide +kernel
theorem dX1_pairLines_106 : decode cX1_pairLines 106 = .ok (.goto (-89), 3) := by decide +kernel
theorem dX1_pairLines_109 : decode cX1_pairLines 109 = .ok (.return_, 1) := by decide +kernel
theorem dX3_mergePart_0 : decode cX3_mergePart 0 = .ok (.aload_n 0, 1) := by decide +kernel
theorem dX3_mergePart_1 : decode cX3_mergePart 1 = .ok (.getfield 12, 3) := by decide +kernel
theorem dX3_mergePart_4 : decode cX3_mergePart 4 = .ok (.getfield 50, 3) := by decide +kernel
theorem dX3_mergePart_7 : decode cX3_mergePart 7 = .ok (.iload_n 1, 1) := by decide +kernel
theorem dX3_mergePart_8 : decode cX3_mergePart 8 = .ok (.iload_n 2, 1) := by decide +kernel
theorem dX3_mergePart_9 : decode cX3_mergePart 9 = .ok (.aload_n 0, 1) := by decide +kernel
theorem dX3_mergePart_10 : decode cX3_mergePart 10 = .ok (.getfield 12, 3) := by decide +kernel
theorem dX3_mergePart_13 : decode cX3_mergePart 13 = .ok (.getfield 60, 3) := by decide +kernel
theorem dX3_mergePart_16 : decode cX3_mergePart 16 = .ok (.iload_n 3, 1) := by decide +kernel
theorem dX3_mergePart_17 : decode cX3_mergePart 17 = .ok (.iload 4, 2) := by decide +kernel
theorem dX3_mergePart_19 : decode cX3_mergePart 19 = .ok (.invokestatic 63, 3) := by decide +kernel
theorem dX3_mergePart_22 : decode cX3_mergePart 22 = .ok (.ifCond .eq 21, 3) := by decide +kernel
theorem dX3_mergePart_25 : decode cX3_mergePart 25 = .ok (.aload_n 0, 1) := by decide +kernel
theorem dX3_mergePart_26 : decode cX3_mergePart 26 = .ok (.aload_n 0, 1) := by decide +kernel
theorem dX3_mergePart_27 : decode cX3_mergePart 27 = .ok (.getfield 18, 3) := by decide +kernel
theorem dX3_mergePart_30 : decode cX3_mergePart 30 = .ok (.getfield 60, 3) := by decide +kernel
theorem dX3_mergePart_33 : decode cX3_mergePart 33 = .ok (.iload 5, 2) := by decide +kernel
theorem dX3_mergePart_35 : decode cX3_mergePart 35 = .ok (.iload 6, 2) := by decide +kernel
theorem dX3_mergePart_37 : decode cX3_mergePart 37 = .ok (.invokevirtual 67, 3) := by decide +kernel
theorem dX3_mergePart_40 : decode cX3_mergePart 40 = .ok (.goto 125, 3) := by decide +kernel
theorem dX3_mergePart_43 : decode cX3_mergePart 43 = .ok (.aload_n 0, 1) := by decide +kernel
theorem dX3_mergePart_44 : decode cX3_mergePart 44 = .ok (.getfield 12, 3) := by decide +kernel
theorem dX3_mergePart_47 : decode cX3_mergePart 47 = .ok (.getfield 50, 3) := by decide +kernel
theorem dX3_mergePart_50 : decode cX3_mergePart 50 = .ok (.iload_n 1, 1) := by decide +kernel
theorem dX3_mergePart_51 : decode cX3_mergePart 51 = .ok (.iload_n 2, 1) := by decide +kernel
theorem dX3_mergePart_52 : decode cX3_mergePart 52 = .ok (.aload_n 0, 1) := by decide +kernel
theorem dX3_mergePart_53 : decode cX3_mergePart 53 = .ok (.getfield 18, 3) := by decide +kernel
theorem dX3_mergePart_56 : decode cX3_mergePart 56 = .ok (.getfield 60, 3) := by decide +kernel
theorem dX3_mergePart_59 : decode cX3_mergePart 59 = .ok (.iload 5, 2) := by decide +kernel
theorem dX3_mergePart_61 : decode cX3_mergePart 61 = .ok (.iload 6, 2) := by decide +kernel
theorem dX3_mergePart_63 : decode cX3_mergePart 63 = .ok (.invokestatic 63, 3) := by decide +kernel
theorem dX3_mergePart_66 : decode cX3_mergePart 66 = .ok (.ifCond .ne 30, 3) := by decide +kernel
theorem dX3_mergePart_69 : decode cX3_mergePart 69 = .ok (.aload_n 0, 1) := by decide +kernel
theorem dX3_mergePart_70 : decode cX3_mergePart 70 = .ok (.getfield 12, 3) := by decide +kernel
theorem dX3_mergePart_73 : decode cX3_mergePart 73 = .ok (.getfield 60, 3) := by decide +kernel
theorem dX3_mergePart_76 : decode cX3_mergePart 76 = .ok (.iload_n 3, 1) := by decide +kernel
theorem dX3_mergePart_77 : decode cX3_mergePart 77 = .ok (.iload 4, 2) := by decide +kernel
theorem dX3_mergePart_79 : decode cX3_mergePart 79 = .ok (.aload_n 0, 1) := by decide +kernel
theorem dX3_mergePart_80 : decode cX3_mergePart 80 = .ok (.getfield 18, 3) := by decide +kernel
theorem dX3_mergePart_83 : decode cX3_mergePart 83 = .ok (.getfield 60, 3) := by decide +kernel
theorem dX3_mergePart_86 : decode cX3_mergePart 86 = .ok (.iload 5, 2) := by decide +kernel
theorem dX3_mergePart_88 : decode cX3_mergePart 88 = .ok (.iload 6, 2) := by decide +kernel
theorem dX3_mergePart_90 : decode cX3_mergePart 90 = .ok (.invokestatic 63, 3) := by decide +kernel
theorem dX3_mergePart_93 : decode cX3_mergePart 93 = .ok (.ifCond .eq 20, 3) := by decide +kernel
theorem dX3_mergePart_96 : decode cX3_mergePart 96 = .ok (.aload_n 0, 1) := by decide +kernel
theorem dX3_mergePart_97 : decode cX3_mergePart 97 = .ok (.aload_n 0, 1) := by decide +kernel
theorem dX3_mergePart_98 : decode cX3_mergePart 98 = .ok (.getfield 12, 3) := by decide +kernel
theorem dX3_mergePart_101 : decode cX3_mergePart 101 = .ok (.getfield 60, 3) := by decide +kernel
theorem dX3_mergePart_104 : decode cX3_mergePart 104 = .ok (.iload_n 3, 1) := by decide +kernel
theorem dX3_mergePart_105 : decode cX3_mergePart 105 = .ok (.iload 4, 2) := by decide +kernel
theorem dX3_mergePart_107 : decode cX3_mergePart 107 = .ok (.invokevirtual 67, 3) := by decide +kernel
theorem dX3_mergePart_110 : decode cX3_mergePart 110 = .ok (.goto 55, 3) := by decide +kernel
theorem dX3_mergePart_113 : decode cX3_mergePart 113 = .ok (.aload_n 0, 1) := by decide +kernel
theorem dX3_mergePart_114 : decode cX3_mergePart 114 = .ok (.iconst 1, 1) := by decide +kernel
theorem dX3_mergePart_115 : decode cX3_mergePart 115 = .ok (.putfield 31, 3) := by decide +kernel
theorem dX3_mergePart_118 : decode cX3_mergePart 118 = .ok (.aload_n 0, 1) := by decide +kernel
theorem dX3_mergePart_119 : decode cX3_mergePart 119 = .ok (.bipush 17, 2) := by decide +kernel
theorem dX3_mergePart_121 : decode cX3_mergePart 121 = .ok (.invokevirtual 53, 3) := by decide +kernel
theorem dX3_mergePart_124 : decode cX3_mergePart 124 = .ok (.aload_n 0, 1) := by decide +kernel
theorem dX3_mergePart_125 : decode cX3_mergePart 125 = .ok (.aload_n 0, 1) := by decide +kernel
theorem dX3_mergePart_126 : decode cX3_mergePart 126 = .ok (.getfield 12, 3) := by decide +kernel
theorem dX3_mergePart_129 : decode cX3_mergePart 129 = .ok (.getfield 60, 3) := by decide +kernel
theorem dX3_mergePart_132 : decode cX3_mergePart 132 = .ok (.iload_n 3, 1) := by decide +kernel
theorem dX3_mergePart_133 : decode cX3_mergePart 133 = .ok (.iload 4, 2) := by decide +kernel
theorem dX3_mergePart_135 : decode cX3_mergePart 135 = .ok (.invokevirtual 67, 3) := by decide +kernel
theorem dX3_mergePart_138 : decode cX3_mergePart 138 = .ok (.aload_n 0, 1) := by decide +kernel
theorem dX3_mergePart_139 : decode cX3_mergePart 139 = .ok (.bipush 18, 2) := by decide +kernel
theorem dX3_mergePart_141 : decode cX3_mergePart 141 = .ok (.invokevirtual 53, 3) := by decide +kernel
theorem dX3_mergePart_144 : decode cX3_mergePart 144 = .ok (.aload_n 0, 1) := by decide +kernel
theorem dX3_mergePart_145 : decode cX3_mergePart 145 = .ok (.aload_n 0, 1) := by decide +kernel
theorem dX3_mergePart_146 : decode cX3_mergePart 146 = .ok (.getfield 18, 3) := by decide +kernel
theorem dX3_mergePart_149 : decode cX3_mergePart 149 = .ok (.getfield 60, 3) := by decide +kernel
theorem dX3_mergePart_152 : decode cX3_mergePart 152 = .ok (.iload 5, 2) := by decide +kernel
theorem dX3_mergePart_154 : decode cX3_mergePart 154 = .ok (.iload 6, 2) := by decide +kernel
theorem dX3_mergePart_156 : decode cX3_mergePart 156 = .ok (.invokevirtual 67, 3) := by decide +kernel
theorem dX3_mergePart_159 : decode cX3_mergePart 159 = .ok (.aload_n 0, 1) := by decide +kernel
theorem dX3_mergePart_160 : decode cX3_mergePart 160 = .ok (.bipush 19, 2) := by decide +kernel
theorem dX3_mergePart_162 : decode cX3_mergePart 162 = .ok (.invokevirtual 53, 3) := by decide +kernel
theorem dX3_mergePart_165 : decode cX3_mergePart 165 = .ok (.return_, 1) := by decide +kernel
theorem dX3_isSame_0 : decode cX3_isSame 0 = .ok (.iload_n 2, 1) := by decide +kernel
theorem dX3_isSame_1 : decode cX3_isSame 1 = .ok (.iload_n 1, 1) := by decide +kernel
theorem dX3_isSame_2 : decode cX3_isSame 2 = .ok (.isub, 1) := by decide +kernel
theorem dX3_isSame_3 : decode cX3_isSame 3 = .ok (.iload 5, 2) := by decide +kernel
theorem dX3_isSame_5 : decode cX3_isSame 5 = .ok (.iload 4, 2) := by decide +kernel
theorem dX3_isSame_7 : decode cX3_isSame 7 = .ok (.isub, 1) := by decide +kernel
theorem dX3_isSame_8 : decode cX3_isSame 8 = .ok (.if_icmp .eq 5, 3) := by decide +kernel
theorem dX3_isSame_11 : decode cX3_isSame 11 = .ok (.iconst 0, 1) := by decide +kernel
theorem dX3_isSame_12 : decode cX3_isSame 12 = .ok (.ireturn, 1) := by decide +kernel
theorem dX3_isSame_13 : decode cX3_isSame 13 = .ok (.iconst 0, 1) := by decide +kernel
theorem dX3_isSame_14 : decode cX3_isSame 14 = .ok (.istore 6, 2) := by decide +kernel
theorem dX3_isSame_16 : decode cX3_isSame 16 = .ok (.iload 6, 2) := by decide +kernel
theorem dX3_isSame_18 : decode cX3_isSame 18 = .ok (.iload_n 2, 1) := by decide +kernel
theorem dX3_isSame_19 : decode cX3_isSame 19 = .ok (.iload_n 1, 1) := by decide +kernel
theorem dX3_isSame_20 : decode cX3_isSame 20 = .ok (.isub, 1) := by decide +kernel
theorem dX3_isSame_21 : decode cX3_isSame 21 = .ok (.if_icmp .ge 27, 3) := by decide +kernel
theorem dX3_isSame_24 : decode cX3_isSame 24 = .ok (.aload_n 0, 1) := by decide +kernel
theorem dX3_isSame_25 : decode cX3_isSame 25 = .ok (.iload_n 1, 1) := by decide +kernel
theorem dX3_isSame_26 : decode cX3_isSame 26 = .ok (.iload 6, 2) := by decide +kernel
theorem dX3_isSame_28 : decode cX3_isSame 28 = .ok (.iadd, 1) := by decide +kernel
theorem dX3_isSame_29 : decode cX3_isSame 29 = .ok (.iaload, 1) := by decide +kernel
theorem dX3_isSame_30 : decode cX3_isSame 30 = .ok (.aload_n 3, 1) := by decide +kernel
theorem dX3_isSame_31 : decode cX3_isSame 31 = .ok (.iload 4, 2) := by decide +kernel
theorem dX3_isSame_33 : decode cX3_isSame 33 = .ok (.iload 6, 2) := by decide +kernel
theorem dX3_isSame_35 : decode cX3_isSame 35 = .ok (.iadd, 1) := by decide +kernel
theorem dX3_isSame_36 : decode cX3_isSame 36 = .ok (.iaload, 1) := by decide +kernel
theorem dX3_isSame_37 : decode cX3_isSame 37 = .ok (.if_icmp .eq 5, 3) := by decide +kernel
theorem dX3_isSame_40 : decode cX3_isSame 40 = .ok (.iconst 0, 1) := by decide +kernel
theorem dX3_isSame_41 : decode cX3_isSame 41 = .ok (.ireturn, 1) := by decide +kernel
theorem dX3_isSame_42 : decode cX3_isSame 42 = .ok (.iinc 6 1, 3) := by decide +kernel
theorem dX3_isSame_45 : decode cX3_isSame 45 = .ok (.goto (-29), 3) := by decide +kernel
theorem dX3_isSame_48 : decode cX3_isSame 48 = .ok (.iconst 1, 1) := by decide +kernel
theorem dX3_isSame_49 : decode cX3_isSame 49 = .ok (.ireturn, 1) := by decide +kernel
theorem dX3_takeAll_0 : decode cX3_takeAll 0 = .ok (.iload_n 2, 1) := by decide +kernel
theorem dX3_takeAll_1 : decode cX3_takeAll 1 = .ok (.istore 4, 2) := by decide +kernel
theorem dX3_takeAll_3 : decode cX3_takeAll 3 = .ok (.iload 4, 2) := by decide +kernel
theorem dX3_takeAll_5 : decode cX3_takeAll 5 = .ok (.iload_n 3, 1) := by decide +kernel
theorem dX3_takeAll_6 : decode cX3_takeAll 6 = .ok (.if_icmp .ge 17, 3) := by decide +kernel
theorem dX3_takeAll_9 : decode cX3_takeAll 9 = .ok (.aload_n 0, 1) := by decide +kernel
theorem dX3_takeAll_10 : decode cX3_takeAll 10 = .ok (.aload_n 1, 1) := by decide +kernel
theorem dX3_takeAll_11 : decode cX3_takeAll 11 = .ok (.iload 4, 2) := by decide +kernel
theorem dX3_takeAll_13 : decode cX3_takeAll 13 = .ok (.iaload, 1) := by decide +kernel
theorem dX3_takeAll_14 : decode cX3_takeAll 14 = .ok (.invokevirtual 53, 3) := by decide +kernel
theorem dX3_takeAll_17 : decode cX3_takeAll 17 = .ok (.iinc 4 1, 3) := by decide +kernel
theorem dX3_takeAll_20 : decode cX3_takeAll 20 = .ok (.goto (-17), 3) := by decide +kernel
theorem dX3_takeAll_23 : decode cX3_takeAll 23 = .ok (.return_, 1) := by decide +kernel
theorem dX3_take_0 : decode cX3_take 0 = .ok (.aload_n 0, 1) := by decide +kernel
theorem dX3_take_1 : decode cX3_take 1 = .ok (.getfield 27, 3) := by decide +kernel
theorem dX3_take_4 : decode cX3_take 4 = .ok (.bipush 12, 2) := by decide +kernel
theorem dX3_take_6 : decode cX3_take 6 = .ok (.if_icmp .ge 18, 3) := by decide +kernel
theorem dX3_take_9 : decode cX3_take 9 = .ok (.aload_n 0, 1) := by decide +kernel
theorem dX3_take_10 : decode cX3_take 10 = .ok (.aload_n 0, 1) := by decide +kernel
theorem dX3_take_11 : decode cX3_take 11 = .ok (.getfield 23, 3) := by decide +kernel
theorem dX3_take_14 : decode cX3_take 14 = .ok (.ldc2_w 71, 3) := by decide +kernel
theorem dX3_take_17 : decode cX3_take 17 = .ok (.lmul, 1) := by decide +kernel
theorem dX3_take_18 : decode cX3_take 18 = .ok (.iload_n 1, 1) := by decide +kernel
theorem dX3_take_19 : decode cX3_take 19 = .ok (.i2l, 1) := by decide +kernel
theorem dX3_take_20 : decode cX3_take 20 = .ok (.ladd, 1) := by decide +kernel
theorem dX3_take_21 : decode cX3_take 21 = .ok (.putfield 23, 3) := by decide +kernel
theorem dX3_take_24 : decode cX3_take 24 = .ok (.aload_n 0, 1) := by decide +kernel
theorem dX3_take_25 : decode cX3_take 25 = .ok (.dup, 1) := by decide +kernel
theorem dX3_take_26 : decode cX3_take 26 = .ok (.getfield 27, 3) := by decide +kernel
theorem dX3_take_29 : decode cX3_take 29 = .ok (.iconst 1, 1) := by decide +kernel
theorem dX3_take_30 : decode cX3_take 30 = .ok (.iadd, 1) := by decide +kernel
theorem dX3_take_31 : decode cX3_take 31 = .ok (.putfield 27, 3) := by decide +kernel
theorem dX3_take_34 : decode cX3_take 34 = .ok (.return_, 1) := by decide +kernel
theorem dX3_isTooLong_0 : decode cX3_isTooLong 0 = .ok (.aload_n 0, 1) := by decide +kernel
theorem dX3_isTooLong_1 : decode cX3_isTooLong 1 = .ok (.getfield 27, 3) := by decide +kernel
theorem dX3_isTooLong_4 : decode cX3_isTooLong 4 = .ok (.bipush 12, 2) := by decide +kernel
theorem dX3_isTooLong_6 : decode cX3_isTooLong 6 = .ok (.if_icmp .le 7, 3) := by decide +kernel
theorem dX3_isTooLong_9 : decode cX3_isTooLong 9 = .ok (.iconst 1, 1) := by decide +kernel
theorem dX3_isTooLong_10 : decode cX3_isTooLong 10 = .ok (.goto 4, 3) := by decide +kernel
theorem dX3_isTooLong_13 : decode cX3_isTooLong 13 = .ok (.iconst 0, 1) := by decide +kernel
theorem dX3_isTooLong_14 : decode cX3_isTooLong 14 = .ok (.ireturn, 1) := by decide +kernel
theorem dX5_tag_0 : decode cX5_tag 0 = .ok (.iload_n 1, 1) := by decide +kernel
theorem dX5_tag_1 : decode cX5_tag 1 = .ok (.invokestatic 41, 3) := by decide +kernel
theorem dX5_tag_4 : decode cX5_tag 4 = .ok (.ifCond .eq 17, 3) := by decide +kernel
theorem dX5_tag_7 : decode cX5_tag 7 = .ok (.iload_n 2, 1) := by decide +kernel
theorem dX5_tag_8 : decode cX5_tag 8 = .ok (.invokestatic 45, 3) := by decide +kernel
theorem dX5_tag_11 : decode cX5_tag 11 = .ok (.ifCond .eq 10, 3) := by decide +kernel
theorem dX5_tag_14 : decode cX5_tag 14 = .ok (.iload_n 3, 1) := by decide +kernel
theorem dX5_tag_15 : decode cX5_tag 15 = .ok (.invokestatic 118, 3) := by decide +kernel
theorem dX5_tag_18 : decode cX5_tag 18 = .ok (.ifCond .ne 5, 3) := by decide +kernel
theorem dX5_tag_21 : decode cX5_tag 21 = .ok (.iconst 0, 1) := by decide +kernel
theorem dX5_tag_22 : decode cX5_tag 22 = .ok (.ireturn, 1) := by decide +kernel
theorem dX5_tag_23 : decode cX5_tag 23 = .ok (.aload_n 0, 1) := by decide +kernel
theorem dX5_tag_24 : decode cX5_tag 24 = .ok (.iload_n 1, 1) := by decide +kernel
theorem dX5_tag_25 : decode cX5_tag 25 = .ok (.iload_n 2, 1) := by decide +kernel
theorem dX5_tag_26 : decode cX5_tag 26 = .ok (.invokevirtual 48, 3) := by decide +kernel
theorem dX5_tag_29 : decode cX5_tag 29 = .ok (.astore 5, 2) := by decide +kernel
theorem dX5_tag_31 : decode cX5_tag 31 = .ok (.aload_n 0, 1) := by decide +kernel
theorem dX5_tag_32 : decode cX5_tag 32 = .ok (.getfield 11, 3) := by decide +kernel
theorem dX5_tag_35 : decode cX5_tag 35 = .ok (.iload_n 2, 1) := by decide +kernel
theorem dX5_tag_36 : decode cX5_tag 36 = .ok (.aaload, 1) := by decide +kernel
theorem dX5_tag_37 : decode cX5_tag 37 = .ok (.astore 6, 2) := by decide +kernel
theorem dX5_tag_39 : decode cX5_tag 39 = .ok (.iload 4, 2) := by decide +kernel
theorem dX5_tag_41 : decode cX5_tag 41 = .ok (.ifCond .eq 7, 3) := by decide +kernel
theorem dX5_tag_44 : decode cX5_tag 44 = .ok (.iconst 2, 1) := by decide +kernel
theorem dX5_tag_45 : decode cX5_tag 45 = .ok (.goto 4, 3) := by decide +kernel
theorem dX5_tag_48 : decode cX5_tag 48 = .ok (.iconst 1, 1) := by decide +kernel
theorem dX5_tag_49 : decode cX5_tag 49 = .ok (.istore 7, 2) := by decide +kernel
theorem dX5_tag_51 : decode cX5_tag 51 = .ok (.aload 5, 2) := by decide +kernel
theorem dX5_tag_53 : decode cX5_tag 53 = .ok (.invokevirtual 76, 3) := by decide +kernel
theorem dX5_tag_56 : decode cX5_tag 56 = .ok (.ifCond .eq 23, 3) := by decide +kernel
theorem dX5_tag_59 : decode cX5_tag 59 = .ok (.aload_n 0, 1) := by decide +kernel
theorem dX5_tag_60 : decode cX5_tag 60 = .ok (.getfield 23, 3) := by decide +kernel
theorem dX5_tag_63 : decode cX5_tag 63 = .ok (.iload_n 3, 1) := by decide +kernel
theorem dX5_tag_64 : decode cX5_tag 64 = .ok (.iaload, 1) := by decide +kernel
theorem dX5_tag_65 : decode cX5_tag 65 = .ok (.ifCond .eq 16, 3) := by decide +kernel
theorem dX5_tag_68 : decode cX5_tag 68 = .ok (.aload_n 0, 1) := by decide +kernel
theorem dX5_tag_69 : decode cX5_tag 69 = .ok (.getfield 23, 3) := by decide +kernel
theorem dX5_tag_72 : decode cX5_tag 72 = .ok (.iload_n 3, 1) := by decide +kernel
theorem dX5_tag_73 : decode cX5_tag 73 = .ok (.iaload, 1) := by decide +kernel
theorem dX5_tag_74 : decode cX5_tag 74 = .ok (.iload 7, 2) := by decide +kernel
theorem dX5_tag_76 : decode cX5_tag 76 = .ok (.if_icmp .eq 5, 3) := by decide +kernel
theorem dX5_tag_79 : decode cX5_tag 79 = .ok (.iconst 0, 1) := by decide +kernel
theorem dX5_tag_80 : decode cX5_tag 80 = .ok (.ireturn, 1) := by decide +kernel
theorem dX5_tag_81 : decode cX5_tag 81 = .ok (.iload 4, 2) := by decide +kernel
theorem dX5_tag_83 : decode cX5_tag 83 = .ok (.ifCond .eq 26, 3) := by decide +kernel
theorem dX5_tag_86 : decode cX5_tag 86 = .ok (.aload 6, 2) := by decide +kernel
theorem dX5_tag_88 : decode cX5_tag 88 = .ok (.getfield 121, 3) := by decide +kernel
theorem dX5_tag_91 : decode cX5_tag 91 = .ok (.iload_n 3, 1) := by decide +kernel
theorem dX5_tag_92 : decode cX5_tag 92 = .ok (.iaload, 1) := by decide +kernel
theorem dX5_tag_93 : decode cX5_tag 93 = .ok (.iconst (-1), 1) := by decide +kernel
theorem dX5_tag_94 : decode cX5_tag 94 = .ok (.if_icmp .ne 13, 3) := by decide +kernel
theorem dX5_tag_97 : decode cX5_tag 97 = .ok (.aload 6, 2) := by decide +kernel
theorem dX5_tag_99 : decode cX5_tag 99 = .ok (.iconst 0, 1) := by decide +kernel
theorem dX5_tag_100 : decode cX5_tag 100 = .ok (.iconst 1, 1) := by decide +kernel
theorem dX5_tag_101 : decode cX5_tag 101 = .ok (.invokevirtual 124, 3) := by decide +kernel
theorem dX5_tag_104 : decode cX5_tag 104 = .ok (.ifCond .ne 5, 3) := by decide +kernel
theorem dX5_tag_107 : decode cX5_tag 107 = .ok (.iconst 0, 1) := by decide +kernel
theorem dX5_tag_108 : decode cX5_tag 108 = .ok (.ireturn, 1) := by decide +kernel
theorem dX5_tag_109 : decode cX5_tag 109 = .ok (.aload_n 0, 1) := by decide +kernel
theorem dX5_tag_110 : decode cX5_tag 110 = .ok (.getfield 23, 3) := by decide +kernel
theorem dX5_tag_113 : decode cX5_tag 113 = .ok (.iload_n 3, 1) := by decide +kernel
theorem dX5_tag_114 : decode cX5_tag 114 = .ok (.iload 7, 2) := by decide +kernel
theorem dX5_tag_116 : decode cX5_tag 116 = .ok (.iastore, 1) := by decide +kernel
theorem dX5_tag_117 : decode cX5_tag 117 = .ok (.aload 6, 2) := by decide +kernel
theorem dX5_tag_119 : decode cX5_tag 119 = .ok (.getfield 121, 3) := by decide +kernel
theorem dX5_tag_122 : decode cX5_tag 122 = .ok (.iload_n 3, 1) := by decide +kernel
theorem dX5_tag_123 : decode cX5_tag 123 = .ok (.iload 4, 2) := by decide +kernel
theorem dX5_tag_125 : decode cX5_tag 125 = .ok (.ifCond .eq 16, 3) := by decide +kernel
theorem dX5_tag_128 : decode cX5_tag 128 = .ok (.aload 6, 2) := by decide +kernel
theorem dX5_tag_130 : decode cX5_tag 130 = .ok (.aload 5, 2) := by decide +kernel
theorem dX5_tag_132 : decode cX5_tag 132 = .ok (.getfield 128, 3) := by decide +kernel
theorem dX5_tag_135 : decode cX5_tag 135 = .ok (.invokevirtual 131, 3) := by decide +kernel
theorem dX5_tag_138 : decode cX5_tag 138 = .ok (.goto 8, 3) := by decide +kernel
theorem dX5_tag_141 : decode cX5_tag 141 = .ok (.aload 5, 2) := by decide +kernel
theorem dX5_tag_143 : decode cX5_tag 143 = .ok (.getfield 128, 3) := by decide +kernel
theorem dX5_tag_146 : decode cX5_tag 146 = .ok (.iastore, 1) := by decide +kernel
theorem dX5_tag_147 : decode cX5_tag 147 = .ok (.iconst 1, 1) := by decide +kernel
theorem dX5_tag_148 : decode cX5_tag 148 = .ok (.ireturn, 1) := by decide +kernel
theorem dX5_bring_0 : decode cX5_bring 0 = .ok (.iload_n 1, 1) := by decide +kernel
theorem dX5_bring_1 : decode cX5_bring 1 = .ok (.invokestatic 45, 3) := by decide +kernel
theorem dX5_bring_4 : decode cX5_bring 4 = .ok (.ifCond .eq 10, 3) := by decide +kernel
theorem dX5_bring_7 : decode cX5_bring 7 = .ok (.lload_n 2, 1) := by decide +kernel
theorem dX5_bring_8 : decode cX5_bring 8 = .ok (.invokestatic 56, 3) := by decide +kernel
theorem dX5_bring_11 : decode cX5_bring 11 = .ok (.ifCond .ne 5, 3) := by decide +kernel
theorem dX5_bring_14 : decode cX5_bring 14 = .ok (.iconst (-1), 1) := by decide +kernel
theorem dX5_bring_15 : decode cX5_bring 15 = .ok (.ireturn, 1) := by decide +kernel
theorem dX5_bring_16 : decode cX5_bring 16 = .ok (.aload_n 0, 1) := by decide +kernel
theorem dX5_bring_17 : decode cX5_bring 17 = .ok (.getfield 11, 3) := by decide +kernel
theorem dX5_bring_20 : decode cX5_bring 20 = .ok (.iload_n 1, 1) := by decide +kernel
theorem dX5_bring_21 : decode cX5_bring 21 = .ok (.aaload, 1) := by decide +kernel
theorem dX5_bring_22 : decode cX5_bring 22 = .ok (.astore 4, 2) := by decide +kernel
theorem dX5_bring_24 : decode cX5_bring 24 = .ok (.aload 4, 2) := by decide +kernel
theorem dX5_bring_26 : decode cX5_bring 26 = .ok (.invokevirtual 135, 3) := by decide +kernel
theorem dX5_bring_29 : decode cX5_bring 29 = .ok (.ifCond .ne 7, 3) := by decide +kernel
theorem dX5_bring_32 : decode cX5_bring 32 = .ok (.iconst 1, 1) := by decide +kernel
theorem dX5_bring_33 : decode cX5_bring 33 = .ok (.goto 4, 3) := by decide +kernel
theorem dX5_bring_36 : decode cX5_bring 36 = .ok (.iconst 0, 1) := by decide +kernel
theorem dX5_bring_37 : decode cX5_bring 37 = .ok (.istore 5, 2) := by decide +kernel
theorem dX5_bring_39 : decode cX5_bring 39 = .ok (.aload 4, 2) := by decide +kernel
theorem dX5_bring_41 : decode cX5_bring 41 = .ok (.iload 5, 2) := by decide +kernel
theorem dX5_bring_43 : decode cX5_bring 43 = .ok (.ifCond .eq 7, 3) := by decide +kernel
theorem dX5_bring_46 : decode cX5_bring 46 = .ok (.iconst 2, 1) := by decide +kernel
theorem dX5_bring_47 : decode cX5_bring 47 = .ok (.goto 4, 3) := by decide +kernel
theorem dX5_bring_50 : decode cX5_bring 50 = .ok (.iconst 1, 1) := by decide +kernel
theorem dX5_bring_51 : decode cX5_bring 51 = .ok (.aload 4, 2) := by decide +kernel
theorem dX5_bring_53 : decode cX5_bring 53 = .ok (.getfield 138, 3) := by decide +kernel
theorem dX5_bring_56 : decode cX5_bring 56 = .ok (.iconst (-1), 1) := by decide +kernel
theorem dX5_bring_57 : decode cX5_bring 57 = .ok (.if_icmp .ne 7, 3) := by decide +kernel
theorem dX5_bring_60 : decode cX5_bring 60 = .ok (.iconst 1, 1) := by decide +kernel
theorem dX5_bring_61 : decode cX5_bring 61 = .ok (.goto 4, 3) := by decide +kernel
theorem dX5_bring_64 : decode cX5_bring 64 = .ok (.iconst 0, 1) := by decide +kernel
theorem dX5_bring_65 : decode cX5_bring 65 = .ok (.invokevirtual 124, 3) := by decide +kernel
theorem dX5_bring_68 : decode cX5_bring 68 = .ok (.ifCond .ne 6, 3) := by decide +kernel
theorem dX5_bring_71 : decode cX5_bring 71 = .ok (.bipush (-7), 2) := by decide +kernel
theorem dX5_bring_73 : decode cX5_bring 73 = .ok (.ireturn, 1) := by decide +kernel
theorem dX5_bring_74 : decode cX5_bring 74 = .ok (.iload 5, 2) := by decide +kernel
theorem dX5_bring_76 : decode cX5_bring 76 = .ok (.ifCond .eq 12, 3) := by decide +kernel
theorem dX5_bring_79 : decode cX5_bring 79 = .ok (.aload 4, 2) := by decide +kernel
theorem dX5_bring_81 : decode cX5_bring 81 = .ok (.iconst 0, 1) := by decide +kernel
theorem dX5_bring_82 : decode cX5_bring 82 = .ok (.lload_n 2, 1) := by decide +kernel
theorem dX5_bring_83 : decode cX5_bring 83 = .ok (.iconst 0, 1) := by decide +kernel
theorem dX5_bring_84 : decode cX5_bring 84 = .ok (.invokevirtual 141, 3) := by decide +kernel
theorem dX5_bring_87 : decode cX5_bring 87 = .ok (.pop, 1) := by decide +kernel
theorem dX5_bring_88 : decode cX5_bring 88 = .ok (.aload 4, 2) := by decide +kernel
theorem dX5_bring_90 : decode cX5_bring 90 = .ok (.getfield 138, 3) := by decide +kernel
theorem dX5_bring_93 : decode cX5_bring 93 = .ok (.iconst (-1), 1) := by decide +kernel
theorem dX5_bring_94 : decode cX5_bring 94 = .ok (.if_icmp .ne 8, 3) := by decide +kernel
theorem dX5_bring_97 : decode cX5_bring 97 = .ok (.aload 4, 2) := by decide +kernel
theorem dX5_bring_99 : decode cX5_bring 99 = .ok (.invokevirtual 145, 3) := by decide +kernel
theorem dX5_bring_102 : decode cX5_bring 102 = .ok (.iload 5, 2) := by decide +kernel
theorem dX5_bring_104 : decode cX5_bring 104 = .ok (.ifCond .eq 13, 3) := by decide +kernel
theorem dX5_bring_107 : decode cX5_bring 107 = .ok (.aload 4, 2) := by decide +kernel
theorem dX5_bring_109 : decode cX5_bring 109 = .ok (.aload 4, 2) := by decide +kernel
theorem dX5_bring_111 : decode cX5_bring 111 = .ok (.getfield 138, 3) := by decide +kernel
theorem dX5_bring_114 : decode cX5_bring 114 = .ok (.putfield 148, 3) := by decide +kernel
theorem dX5_bring_117 : decode cX5_bring 117 = .ok (.aload 4, 2) := by decide +kernel
theorem dX5_bring_119 : decode cX5_bring 119 = .ok (.aload 4, 2) := by decide +kernel
theorem dX5_bring_121 : decode cX5_bring 121 = .ok (.getfield 138, 3) := by decide +kernel
theorem dX5_bring_124 : decode cX5_bring 124 = .ok (.lload_n 2, 1) := by decide +kernel
theorem dX5_bring_125 : decode cX5_bring 125 = .ok (.iconst 0, 1) := by decide +kernel
theorem dX5_bring_126 : decode cX5_bring 126 = .ok (.invokevirtual 141, 3) := by decide +kernel
theorem dX5_bring_129 : decode cX5_bring 129 = .ok (.ireturn, 1) := by decide +kernel
end
section
/-! what the bytes say -/
theorem dX2_openVendorBranch_0 : decode cX2_openVendorBranch 0 = .ok (.aload_n 0, 1) := by decide +kernel
theorem dX2_openVendorBranch_1 : decode cX2_openVendorBranch 1 = .ok (.aload_n 0, 1) := by decide +kernel
theorem dX2_openVendorBranch_2 : decode cX2_openVendorBranch 2 = .ok (.iconst 0, 1) := by decide +kernel
theorem dX2_openVendorBranch_3 : decode cX2_openVendorBranch 3 = .ok (.iconst 1, 1) := by decide +kernel
theorem dX2_openVendorBranch_4 : decode cX2_openVendorBranch 4 = .ok (.invokevirtual 67, 3) := by decide +kernel
theorem dX2_openVendorBranch_7 : decode cX2_openVendorBranch 7 = .ok (.putfield 48, 3) := by decide +kernel
theorem dX2_openVendorBranch_10 : decode cX2_openVendorBranch 10 = .ok (.return_, 1) := by decide +kernel
theorem dX5_entry_0 : decode cX5_entry 0 = .ok (.iload_n 1, 1) := by decide +kernel
theorem dX5_entry_1 : decode cX5_entry 1 = .ok (.invokestatic 41, 3) := by decide +kernel
theorem dX5_entry_4 : decode cX5_entry 4 = .ok (.ifCond .eq 22, 3) := by decide +kernel
theorem dX5_entry_7 : decode cX5_entry 7 = .ok (.iload_n 2, 1) := by decide +kernel
theorem dX5_entry_8 : decode cX5_entry 8 = .ok (.invokestatic 45, 3) := by decide +kernel
theorem dX5_entry_11 : decode cX5_entry 11 = .ok (.ifCond .eq 15, 3) := by decide +kernel
theorem dX5_entry_14 : decode cX5_entry 14 = .ok (.aload_n 0, 1) := by decide +kernel
theorem dX5_entry_15 : decode cX5_entry 15 = .ok (.iload_n 1, 1) := by decide +kernel
theorem dX5_entry_16 : decode cX5_entry 16 = .ok (.iload_n 2, 1) := by decide +kernel
theorem dX5_entry_17 : decode cX5_entry 17 = .ok (.invokevirtual 48, 3) := by decide +kernel
theorem dX5_entry_20 : decode cX5_entry 20 = .ok (.getfield 128, 3) := by decide +kernel
theorem dX5_entry_23 : decode cX5_entry 23 = .ok (.goto 4, 3) := by decide +kernel
theorem dX5_entry_26 : decode cX5_entry 26 = .ok (.iconst (-1), 1) := by decide +kernel
theorem dX5_entry_27 : decode cX5_entry 27 = .ok (.ireturn, 1) := by decide +kernel
theorem dX5_removed_0 : decode cX5_removed 0 = .ok (.iload_n 1, 1) := by decide +kernel
theorem dX5_removed_1 : decode cX5_removed 1 = .ok (.invokestatic 41, 3) := by decide +kernel
theorem dX5_removed_4 : decode cX5_removed 4 = .ok (.ifCond .eq 26, 3) := by decide +kernel
theorem dX5_removed_7 : decode cX5_removed 7 = .ok (.iload_n 2, 1) := by decide +kernel
theorem dX5_removed_8 : decode cX5_removed 8 = .ok (.invokestatic 45, 3) := by decide +kernel
theorem dX5_removed_11 : decode cX5_removed 11 = .ok (.ifCond .eq 19, 3) := by decide +kernel
theorem dX5_removed_14 : decode cX5_removed 14 = .ok (.aload_n 0, 1) := by decide +kernel
theorem dX5_removed_15 : decode cX5_removed 15 = .ok (.iload_n 1, 1) := by decide +kernel
theorem dX5_removed_16 : decode cX5_removed 16 = .ok (.iload_n 2, 1) := by decide +kernel
theorem dX5_removed_17 : decode cX5_removed 17 = .ok (.invokevirtual 48, 3) := by decide +kernel
theorem dX5_removed_20 : decode cX5_removed 20 = .ok (.getfield 89, 3) := by decide +kernel
theorem dX5_removed_23 : decode cX5_removed 23 = .ok (.ifCond .eq 7, 3) := by decide +kernel
theorem dX5_removed_26 : decode cX5_removed 26 = .ok (.iconst 1, 1) := by decide +kernel
theorem dX5_removed_27 : decode cX5_removed 27 = .ok (.goto 4, 3) := by decide +kernel
theorem dX5_removed_30 : decode cX5_removed 30 = .ok (.iconst 0, 1) := by decide +kernel
theorem dX5_removed_31 : decode cX5_removed 31 = .ok (.ireturn, 1) := by decide +kernel
theorem dX5_local_0 : decode cX5_local 0 = .ok (.iload_n 1, 1) := by decide +kernel
theorem dX5_local_1 : decode cX5_local 1 = .ok (.invokestatic 41, 3) := by decide +kernel
theorem dX5_local_4 : decode cX5_local 4 = .ok (.ifCond .eq 10, 3) := by decide +kernel
theorem dX5_local_7 : decode cX5_local 7 = .ok (.iload_n 2, 1) := by decide +kernel
theorem dX5_local_8 : decode cX5_local 8 = .ok (.invokestatic 45, 3) := by decide +kernel
theorem dX5_local_11 : decode cX5_local 11 = .ok (.ifCond .ne 7, 3) := by decide +kernel
theorem dX5_local_14 : decode cX5_local 14 = .ok (.ldc2_w 151, 3) := by decide +kernel
theorem dX5_local_17 : decode cX5_local 17 = .ok (.lreturn, 1) := by decide +kernel
theorem dX5_local_18 : decode cX5_local 18 = .ok (.aload_n 0, 1) := by decide +kernel
theorem dX5_local_19 : decode cX5_local 19 = .ok (.iload_n 1, 1) := by decide +kernel
theorem dX5_local_20 : decode cX5_local 20 = .ok (.iload_n 2, 1) := by decide +kernel
theorem dX5_local_21 : decode cX5_local 21 = .ok (.invokevirtual 48, 3) := by decide +kernel
theorem dX5_local_24 : decode cX5_local 24 = .ok (.astore_n 3, 1) := by decide +kernel
theorem dX5_local_25 : decode cX5_local 25 = .ok (.aload_n 3, 1) := by decide +kernel
theorem dX5_local_26 : decode cX5_local 26 = .ok (.invokevirtual 66, 3) := by decide +kernel
theorem dX5_local_29 : decode cX5_local 29 = .ok (.ifCond .eq 10, 3) := by decide +kernel
theorem dX5_local_32 : decode cX5_local 32 = .ok (.aload_n 3, 1) := by decide +kernel
theorem dX5_local_33 : decode cX5_local 33 = .ok (.getfield 72, 3) := by decide +kernel
theorem dX5_local_36 : decode cX5_local 36 = .ok (.goto 6, 3) := by decide +kernel
theorem dX5_local_39 : decode cX5_local 39 = .ok (.ldc2_w 151, 3) := by decide +kernel
theorem dX5_local_42 : decode cX5_local 42 = .ok (.lreturn, 1) := by decide +kernel
theorem dX5_selected_0 : decode cX5_selected 0 = .ok (.iload_n 1, 1) := by decide +kernel
theorem dX5_selected_1 : decode cX5_selected 1 = .ok (.invokestatic 41, 3) := by decide +kernel
theorem dX5_selected_4 : decode cX5_selected 4 = .ok (.ifCond .eq 10, 3) := by decide +kernel
theorem dX5_selected_7 : decode cX5_selected 7 = .ok (.iload_n 2, 1) := by decide +kernel
theorem dX5_selected_8 : decode cX5_selected 8 = .ok (.invokestatic 45, 3) := by decide +kernel
theorem dX5_selected_11 : decode cX5_selected 11 = .ok (.ifCond .ne 5, 3) := by decide +kernel
theorem dX5_selected_14 : decode cX5_selected 14 = .ok (.iconst (-1), 1) := by decide +kernel
theorem dX5_selected_15 : decode cX5_selected 15 = .ok (.ireturn, 1) := by decide +kernel
theorem dX5_selected_16 : decode cX5_selected 16 = .ok (.aload_n 0, 1) := by decide +kernel
theorem dX5_selected_17 : decode cX5_selected 17 = .ok (.aload_n 0, 1) := by decide +kernel
theorem dX5_selected_18 : decode cX5_selected 18 = .ok (.getfield 11, 3) := by decide +kernel
theorem dX5_selected_21 : decode cX5_selected 21 = .ok (.iload_n 2, 1) := by decide +kernel
theorem dX5_selected_22 : decode cX5_selected 22 = .ok (.aaload, 1) := by decide +kernel
theorem dX5_selected_23 : decode cX5_selected 23 = .ok (.aload_n 0, 1) := by decide +kernel
theorem dX5_selected_24 : decode cX5_selected 24 = .ok (.iload_n 1, 1) := by decide +kernel
theorem dX5_selected_25 : decode cX5_selected 25 = .ok (.iload_n 2, 1) := by decide +kernel
theorem dX5_selected_26 : decode cX5_selected 26 = .ok (.invokevirtual 48, 3) := by decide +kernel
theorem dX5_selected_29 : decode cX5_selected 29 = .ok (.getfield 114, 3) := by decide +kernel
theorem dX5_selected_32 : decode cX5_selected 32 = .ok (.invokevirtual 106, 3) := by decide +kernel
theorem dX5_selected_35 : decode cX5_selected 35 = .ok (.ireturn, 1) := by decide +kernel
theorem dX5_sticky_0 : decode cX5_sticky 0 = .ok (.iload_n 1, 1) := by decide +kernel
theorem dX5_sticky_1 : decode cX5_sticky 1 = .ok (.invokestatic 41, 3) := by decide +kernel
theorem dX5_sticky_4 : decode cX5_sticky 4 = .ok (.ifCond .eq 22, 3) := by decide +kernel
theorem dX5_sticky_7 : decode cX5_sticky 7 = .ok (.iload_n 2, 1) := by decide +kernel
theorem dX5_sticky_8 : decode cX5_sticky 8 = .ok (.invokestatic 45, 3) := by decide +kernel
theorem dX5_sticky_11 : decode cX5_sticky 11 = .ok (.ifCond .eq 15, 3) := by decide +kernel
theorem dX5_sticky_14 : decode cX5_sticky 14 = .ok (.aload_n 0, 1) := by decide +kernel
theorem dX5_sticky_15 : decode cX5_sticky 15 = .ok (.iload_n 1, 1) := by decide +kernel
theorem dX5_sticky_16 : decode cX5_sticky 16 = .ok (.iload_n 2, 1) := by decide +kernel
theorem dX5_sticky_17 : decode cX5_sticky 17 = .ok (.invokevirtual 48, 3) := by decide +kernel
theorem dX5_sticky_20 : decode cX5_sticky 20 = .ok (.getfield 114, 3) := by decide +kernel
theorem dX5_sticky_23 : decode cX5_sticky 23 = .ok (.goto 4, 3) := by decide +kernel
theorem dX5_sticky_26 : decode cX5_sticky 26 = .ok (.iconst (-1), 1) := by decide +kernel
theorem dX5_sticky_27 : decode cX5_sticky 27 = .ok (.ireturn, 1) := by decide +kernel
theorem dX5_revisions_0 : decode cX5_revisions 0 = .ok (.iload_n 1, 1) := by decide +kernel
theorem dX5_revisions_1 : decode cX5_revisions 1 = .ok (.invokestatic 45, 3) := by decide +kernel
theorem dX5_revisions_4 : decode cX5_revisions 4 = .ok (.ifCond .eq 15, 3) := by decide +kernel
theorem dX5_revisions_7 : decode cX5_revisions 7 = .ok (.aload_n 0, 1) := by decide +kernel
theorem dX5_revisions_8 : decode cX5_revisions 8 = .ok (.getfield 11, 3) := by decide +kernel
theorem dX5_revisions_11 : decode cX5_revisions 11 = .ok (.iload_n 1, 1) := by decide +kernel
theorem dX5_revisions_12 : decode cX5_revisions 12 = .ok (.aaload, 1) := by decide +kernel
theorem dX5_revisions_13 : decode cX5_revisions 13 = .ok (.getfield 153, 3) := by decide +kernel
theorem dX5_revisions_16 : decode cX5_revisions 16 = .ok (.goto 4, 3) := by decide +kernel
theorem dX5_revisions_19 : decode cX5_revisions 19 = .ok (.iconst (-1), 1) := by decide +kernel
theorem dX5_revisions_20 : decode cX5_revisions 20 = .ok (.ireturn, 1) := by decide +kernel
theorem dX5_number_0 : decode cX5_number 0 = .ok (.aload_n 0, 1) := by decide +kernel
theorem dX5_number_1 : decode cX5_number 1 = .ok (.iload_n 1, 1) := by decide +kernel
theorem dX5_number_2 : decode cX5_number 2 = .ok (.iload_n 2, 1) := by decide +kernel
theorem dX5_number_3 : decode cX5_number 3 = .ok (.invokevirtual 156, 3) := by decide +kernel
theorem dX5_number_6 : decode cX5_number 6 = .ok (.ifCond .eq 21, 3) := by decide +kernel
theorem dX5_number_9 : decode cX5_number 9 = .ok (.iload_n 3, 1) := by decide +kernel
theorem dX5_number_10 : decode cX5_number 10 = .ok (.ifCond .lt 17, 3) := by decide +kernel
theorem dX5_number_13 : decode cX5_number 13 = .ok (.aload_n 0, 1) := by decide +kernel
theorem dX5_number_14 : decode cX5_number 14 = .ok (.getfield 11, 3) := by decide +kernel
theorem dX5_number_17 : decode cX5_number 17 = .ok (.iload_n 1, 1) := by decide +kernel
theorem dX5_number_18 : decode cX5_number 18 = .ok (.aaload, 1) := by decide +kernel
theorem dX5_number_19 : decode cX5_number 19 = .ok (.iload_n 2, 1) := by decide +kernel
theorem dX5_number_20 : decode cX5_number 20 = .ok (.iload_n 3, 1) := by decide +kernel
theorem dX5_number_21 : decode cX5_number 21 = .ok (.invokevirtual 159, 3) := by decide +kernel
theorem dX5_number_24 : decode cX5_number 24 = .ok (.goto 4, 3) := by decide +kernel
theorem dX5_number_27 : decode cX5_number 27 = .ok (.iconst (-1), 1) := by decide +kernel
theorem dX5_number_28 : decode cX5_number 28 = .ok (.ireturn, 1) := by decide +kernel
theorem dX5_isRevision_0 : decode cX5_isRevision 0 = .ok (.iload_n 1, 1) := by decide +kernel
theorem dX5_isRevision_1 : decode cX5_isRevision 1 = .ok (.invokestatic 45, 3) := by decide +kernel
theorem dX5_isRevision_4 : decode cX5_isRevision 4 = .ok (.ifCond .eq 24, 3) := by decide +kernel
theorem dX5_isRevision_7 : decode cX5_isRevision 7 = .ok (.iload_n 2, 1) := by decide +kernel
theorem dX5_isRevision_8 : decode cX5_isRevision 8 = .ok (.ifCond .lt 20, 3) := by decide +kernel
theorem dX5_isRevision_11 : decode cX5_isRevision 11 = .ok (.iload_n 2, 1) := by decide +kernel
theorem dX5_isRevision_12 : decode cX5_isRevision 12 = .ok (.aload_n 0, 1) := by decide +kernel
theorem dX5_isRevision_13 : decode cX5_isRevision 13 = .ok (.getfield 11, 3) := by decide +kernel
theorem dX5_isRevision_16 : decode cX5_isRevision 16 = .ok (.iload_n 1, 1) := by decide +kernel
theorem dX5_isRevision_17 : decode cX5_isRevision 17 = .ok (.aaload, 1) := by decide +kernel
theorem dX5_isRevision_18 : decode cX5_isRevision 18 = .ok (.getfield 153, 3) := by decide +kernel
theorem dX5_isRevision_21 : decode cX5_isRevision 21 = .ok (.if_icmp .ge 7, 3) := by decide +kernel
theorem dX5_isRevision_24 : decode cX5_isRevision 24 = .ok (.iconst 1, 1) := by decide +kernel
theorem dX5_isRevision_25 : decode cX5_isRevision 25 = .ok (.goto 4, 3) := by decide +kernel
theorem dX5_isRevision_28 : decode cX5_isRevision 28 = .ok (.iconst 0, 1) := by decide +kernel
theorem dX5_isRevision_29 : decode cX5_isRevision 29 = .ok (.ireturn, 1) := by decide +kernel
theorem dX2_numberPart_0 : decode cX2_numberPart 0 = .ok (.aload_n 0, 1) := by decide +kernel
theorem dX2_numberPart_1 : decode cX2_numberPart 1 = .ok (.iload_n 1, 1) := by decide +kernel
theorem dX2_numberPart_2 : decode cX2_numberPart 2 = .ok (.invokevirtual 71, 3) := by decide +kernel
theorem dX2_numberPart_5 : decode cX2_numberPart 5 = .ok (.istore_n 3, 1) := by decide +kernel
theorem dX2_numberPart_6 : decode cX2_numberPart 6 = .ok (.iload_n 2, 1) := by decide +kernel
theorem dX2_numberPart_7 : decode cX2_numberPart 7 = .ok (.iconst 2, 1) := by decide +kernel
theorem dX2_numberPart_8 : decode cX2_numberPart 8 = .ok (.idiv, 1) := by decide +kernel
theorem dX2_numberPart_9 : decode cX2_numberPart 9 = .ok (.istore 4, 2) := by decide +kernel
theorem dX2_numberPart_11 : decode cX2_numberPart 11 = .ok (.iload 4, 2) := by decide +kernel
theorem dX2_numberPart_13 : decode cX2_numberPart 13 = .ok (.iload_n 3, 1) := by decide +kernel
theorem dX2_numberPart_14 : decode cX2_numberPart 14 = .ok (.if_icmp .le 5, 3) := by decide +kernel
theorem dX2_numberPart_17 : decode cX2_numberPart 17 = .ok (.iconst 0, 1) := by decide +kernel
theorem dX2_numberPart_18 : decode cX2_numberPart 18 = .ok (.ireturn, 1) := by decide +kernel
theorem dX2_numberPart_19 : decode cX2_numberPart 19 = .ok (.iload_n 1, 1) := by decide +kernel
theorem dX2_numberPart_20 : decode cX2_numberPart 20 = .ok (.istore 5, 2) := by decide +kernel
theorem dX2_numberPart_22 : decode cX2_numberPart 22 = .ok (.iload_n 3, 1) := by decide +kernel
theorem dX2_numberPart_23 : decode cX2_numberPart 23 = .ok (.istore 6, 2) := by decide +kernel
theorem dX2_numberPart_25 : decode cX2_numberPart 25 = .ok (.iload 6, 2) := by decide +kernel
theorem dX2_numberPart_27 : decode cX2_numberPart 27 = .ok (.iload 4, 2) := by decide +kernel
theorem dX2_numberPart_29 : decode cX2_numberPart 29 = .ok (.if_icmp .le 23, 3) := by decide +kernel
theorem dX2_numberPart_32 : decode cX2_numberPart 32 = .ok (.aload_n 0, 1) := by decide +kernel
theorem dX2_numberPart_33 : decode cX2_numberPart 33 = .ok (.getfield 33, 3) := by decide +kernel
theorem dX2_numberPart_36 : decode cX2_numberPart 36 = .ok (.aload_n 0, 1) := by decide +kernel
theorem dX2_numberPart_37 : decode cX2_numberPart 37 = .ok (.getfield 19, 3) := by decide +kernel
theorem dX2_numberPart_40 : decode cX2_numberPart 40 = .ok (.iload 5, 2) := by decide +kernel
theorem dX2_numberPart_42 : decode cX2_numberPart 42 = .ok (.iaload, 1) := by decide +kernel
theorem dX2_numberPart_43 : decode cX2_numberPart 43 = .ok (.iaload, 1) := by decide +kernel
theorem dX2_numberPart_44 : decode cX2_numberPart 44 = .ok (.istore 5, 2) := by decide +kernel
theorem dX2_numberPart_46 : decode cX2_numberPart 46 = .ok (.iinc 6 (-1), 3) := by decide +kernel
theorem dX2_numberPart_49 : decode cX2_numberPart 49 = .ok (.goto (-24), 3) := by decide +kernel
theorem dX2_numberPart_52 : decode cX2_numberPart 52 = .ok (.iload_n 2, 1) := by decide +kernel
theorem dX2_numberPart_53 : decode cX2_numberPart 53 = .ok (.iconst 2, 1) := by decide +kernel
theorem dX2_numberPart_54 : decode cX2_numberPart 54 = .ok (.irem, 1) := by decide +kernel
theorem dX2_numberPart_55 : decode cX2_numberPart 55 = .ok (.ifCond .ne 18, 3) := by decide +kernel
theorem dX2_numberPart_58 : decode cX2_numberPart 58 = .ok (.aload_n 0, 1) := by decide +kernel
theorem dX2_numberPart_59 : decode cX2_numberPart 59 = .ok (.getfield 36, 3) := by decide +kernel
theorem dX2_numberPart_62 : decode cX2_numberPart 62 = .ok (.aload_n 0, 1) := by decide +kernel
theorem dX2_numberPart_63 : decode cX2_numberPart 63 = .ok (.getfield 19, 3) := by decide +kernel
theorem dX2_numberPart_66 : decode cX2_numberPart 66 = .ok (.iload 5, 2) := by decide +kernel
theorem dX2_numberPart_68 : decode cX2_numberPart 68 = .ok (.iaload, 1) := by decide +kernel
theorem dX2_numberPart_69 : decode cX2_numberPart 69 = .ok (.iaload, 1) := by decide +kernel
theorem dX2_numberPart_70 : decode cX2_numberPart 70 = .ok (.goto 10, 3) := by decide +kernel
theorem dX2_numberPart_73 : decode cX2_numberPart 73 = .ok (.aload_n 0, 1) := by decide +kernel
theorem dX2_numberPart_74 : decode cX2_numberPart 74 = .ok (.getfield 23, 3) := by decide +kernel
theorem dX2_numberPart_77 : decode cX2_numberPart 77 = .ok (.iload 5, 2) := by decide +kernel
theorem dX2_numberPart_79 : decode cX2_numberPart 79 = .ok (.iaload, 1) := by decide +kernel
theorem dX2_numberPart_80 : decode cX2_numberPart 80 = .ok (.ireturn, 1) := by decide +kernel
theorem dX2_depth_0 : decode cX2_depth 0 = .ok (.iconst 0, 1) := by decide +kernel
theorem dX2_depth_1 : decode cX2_depth 1 = .ok (.istore_n 2, 1) := by decide +kernel
theorem dX2_depth_2 : decode cX2_depth 2 = .ok (.aload_n 0, 1) := by decide +kernel
theorem dX2_depth_3 : decode cX2_depth 3 = .ok (.getfield 19, 3) := by decide +kernel
theorem dX2_depth_6 : decode cX2_depth 6 = .ok (.iload_n 1, 1) := by decide +kernel
theorem dX2_depth_7 : decode cX2_depth 7 = .ok (.iaload, 1) := by decide +kernel
theorem dX2_depth_8 : decode cX2_depth 8 = .ok (.istore_n 3, 1) := by decide +kernel
theorem dX2_depth_9 : decode cX2_depth 9 = .ok (.iconst 1, 1) := by decide +kernel
theorem dX2_depth_10 : decode cX2_depth 10 = .ok (.istore 4, 2) := by decide +kernel
theorem dX2_depth_12 : decode cX2_depth 12 = .ok (.iload 4, 2) := by decide +kernel
theorem dX2_depth_14 : decode cX2_depth 14 = .ok (.bipush 6, 2) := by decide +kernel
theorem dX2_depth_16 : decode cX2_depth 16 = .ok (.if_icmp .ge 28, 3) := by decide +kernel
theorem dX2_depth_19 : decode cX2_depth 19 = .ok (.iload_n 3, 1) := by decide +kernel
theorem dX2_depth_20 : decode cX2_depth 20 = .ok (.ifCond .eq 24, 3) := by decide +kernel
theorem dX2_depth_23 : decode cX2_depth 23 = .ok (.aload_n 0, 1) := by decide +kernel
theorem dX2_depth_24 : decode cX2_depth 24 = .ok (.getfield 19, 3) := by decide +kernel
theorem dX2_depth_27 : decode cX2_depth 27 = .ok (.aload_n 0, 1) := by decide +kernel
theorem dX2_depth_28 : decode cX2_depth 28 = .ok (.getfield 33, 3) := by decide +kernel
theorem dX2_depth_31 : decode cX2_depth 31 = .ok (.iload_n 3, 1) := by decide +kernel
theorem dX2_depth_32 : decode cX2_depth 32 = .ok (.iaload, 1) := by decide +kernel
theorem dX2_depth_33 : decode cX2_depth 33 = .ok (.iaload, 1) := by decide +kernel
theorem dX2_depth_34 : decode cX2_depth 34 = .ok (.istore_n 3, 1) := by decide +kernel
theorem dX2_depth_35 : decode cX2_depth 35 = .ok (.iinc 2 1, 3) := by decide +kernel
theorem dX2_depth_38 : decode cX2_depth 38 = .ok (.iinc 4 1, 3) := by decide +kernel
theorem dX2_depth_41 : decode cX2_depth 41 = .ok (.goto (-29), 3) := by decide +kernel
theorem dX2_depth_44 : decode cX2_depth 44 = .ok (.iload_n 2, 1) := by decide +kernel
theorem dX2_depth_45 : decode cX2_depth 45 = .ok (.ireturn, 1) := by decide +kernel
theorem dX5_content_0 : decode cX5_content 0 = .ok (.aload_n 0, 1) := by decide +kernel
theorem dX5_content_1 : decode cX5_content 1 = .ok (.iload_n 1, 1) := by decide +kernel
theorem dX5_content_2 : decode cX5_content 2 = .ok (.iload_n 2, 1) := by decide +kernel
theorem dX5_content_3 : decode cX5_content 3 = .ok (.invokevirtual 156, 3) := by decide +kernel
theorem dX5_content_6 : decode cX5_content 6 = .ok (.ifCond .eq 17, 3) := by decide +kernel
theorem dX5_content_9 : decode cX5_content 9 = .ok (.aload_n 0, 1) := by decide +kernel
theorem dX5_content_10 : decode cX5_content 10 = .ok (.getfield 11, 3) := by decide +kernel
theorem dX5_content_13 : decode cX5_content 13 = .ok (.iload_n 1, 1) := by decide +kernel
theorem dX5_content_14 : decode cX5_content 14 = .ok (.aaload, 1) := by decide +kernel
theorem dX5_content_15 : decode cX5_content 15 = .ok (.getfield 163, 3) := by decide +kernel
theorem dX5_content_18 : decode cX5_content 18 = .ok (.iload_n 2, 1) := by decide +kernel
theorem dX5_content_19 : decode cX5_content 19 = .ok (.laload, 1) := by decide +kernel
theorem dX5_content_20 : decode cX5_content 20 = .ok (.goto 6, 3) := by decide +kernel
theorem dX5_content_23 : decode cX5_content 23 = .ok (.ldc2_w 151, 3) := by decide +kernel
theorem dX5_content_26 : decode cX5_content 26 = .ok (.lreturn, 1) := by decide +kernel
theorem dX5_dead_0 : decode cX5_dead 0 = .ok (.aload_n 0, 1) := by decide +kernel
theorem dX5_dead_1 : decode cX5_dead 1 = .ok (.iload_n 1, 1) := by decide +kernel
theorem dX5_dead_2 : decode cX5_dead 2 = .ok (.iload_n 2, 1) := by decide +kernel
theorem dX5_dead_3 : decode cX5_dead 3 = .ok (.invokevirtual 156, 3) := by decide +kernel
theorem dX5_dead_6 : decode cX5_dead 6 = .ok (.ifCond .eq 21, 3) := by decide +kernel
theorem dX5_dead_9 : decode cX5_dead 9 = .ok (.aload_n 0, 1) := by decide +kernel
theorem dX5_dead_10 : decode cX5_dead 10 = .ok (.getfield 11, 3) := by decide +kernel
theorem dX5_dead_13 : decode cX5_dead 13 = .ok (.iload_n 1, 1) := by decide +kernel
theorem dX5_dead_14 : decode cX5_dead 14 = .ok (.aaload, 1) := by decide +kernel
theorem dX5_dead_15 : decode cX5_dead 15 = .ok (.getfield 167, 3) := by decide +kernel
theorem dX5_dead_18 : decode cX5_dead 18 = .ok (.iload_n 2, 1) := by decide +kernel
theorem dX5_dead_19 : decode cX5_dead 19 = .ok (.baload, 1) := by decide +kernel
theorem dX5_dead_20 : decode cX5_dead 20 = .ok (.ifCond .eq 7, 3) := by decide +kernel
theorem dX5_dead_23 : decode cX5_dead 23 = .ok (.iconst 1, 1) := by decide +kernel
theorem dX5_dead_24 : decode cX5_dead 24 = .ok (.goto 4, 3) := by decide +kernel
theorem dX5_dead_27 : decode cX5_dead 27 = .ok (.iconst 0, 1) := by decide +kernel
theorem dX5_dead_28 : decode cX5_dead 28 = .ok (.ireturn, 1) := by decide +kernel
theorem dX5_kept_0 : decode cX5_kept 0 = .ok (.aload_n 0, 1) := by decide +kernel
theorem dX5_kept_1 : decode cX5_kept 1 = .ok (.iload_n 1, 1) := by decide +kernel
theorem dX5_kept_2 : decode cX5_kept 2 = .ok (.iload_n 2, 1) := by decide +kernel
theorem dX5_kept_3 : decode cX5_kept 3 = .ok (.invokevirtual 156, 3) := by decide +kernel
theorem dX5_kept_6 : decode cX5_kept 6 = .ok (.ifCond .ne 5, 3) := by decide +kernel
theorem dX5_kept_9 : decode cX5_kept 9 = .ok (.iconst (-1), 1) := by decide +kernel
theorem dX5_kept_10 : decode cX5_kept 10 = .ok (.ireturn, 1) := by decide +kernel
theorem dX5_kept_11 : decode cX5_kept 11 = .ok (.aload_n 0, 1) := by decide +kernel
theorem dX5_kept_12 : decode cX5_kept 12 = .ok (.getfield 11, 3) := by decide +kernel
theorem dX5_kept_15 : decode cX5_kept 15 = .ok (.iload_n 1, 1) := by decide +kernel
theorem dX5_kept_16 : decode cX5_kept 16 = .ok (.aaload, 1) := by decide +kernel
theorem dX5_kept_17 : decode cX5_kept 17 = .ok (.astore_n 3, 1) := by decide +kernel
theorem dX5_kept_18 : decode cX5_kept 18 = .ok (.aload_n 3, 1) := by decide +kernel
theorem dX5_kept_19 : decode cX5_kept 19 = .ok (.iload_n 2, 1) := by decide +kernel
theorem dX5_kept_20 : decode cX5_kept 20 = .ok (.invokevirtual 171, 3) := by decide +kernel
theorem dX5_kept_23 : decode cX5_kept 23 = .ok (.istore 4, 2) := by decide +kernel
theorem dX5_kept_25 : decode cX5_kept 25 = .ok (.iload 4, 2) := by decide +kernel
theorem dX5_kept_27 : decode cX5_kept 27 = .ok (.iconst (-1), 1) := by decide +kernel
theorem dX5_kept_28 : decode cX5_kept 28 = .ok (.if_icmp .ne 13, 3) := by decide +kernel
theorem dX5_kept_31 : decode cX5_kept 31 = .ok (.aload_n 3, 1) := by decide +kernel
theorem dX5_kept_32 : decode cX5_kept 32 = .ok (.getfield 163, 3) := by decide +kernel
theorem dX5_kept_35 : decode cX5_kept 35 = .ok (.iload_n 2, 1) := by decide +kernel
theorem dX5_kept_36 : decode cX5_kept 36 = .ok (.laload, 1) := by decide +kernel
theorem dX5_kept_37 : decode cX5_kept 37 = .ok (.invokestatic 174, 3) := by decide +kernel
theorem dX5_kept_40 : decode cX5_kept 40 = .ok (.ireturn, 1) := by decide +kernel
theorem dX5_kept_41 : decode cX5_kept 41 = .ok (.aload_n 0, 1) := by decide +kernel
theorem dX5_kept_42 : decode cX5_kept 42 = .ok (.getfield 30, 3) := by decide +kernel
theorem dX5_kept_45 : decode cX5_kept 45 = .ok (.aload_n 3, 1) := by decide +kernel
theorem dX5_kept_46 : decode cX5_kept 46 = .ok (.getfield 163, 3) := by decide +kernel
theorem dX5_kept_49 : decode cX5_kept 49 = .ok (.iload 4, 2) := by decide +kernel
theorem dX5_kept_51 : decode cX5_kept 51 = .ok (.laload, 1) := by decide +kernel
theorem dX5_kept_52 : decode cX5_kept 52 = .ok (.aload_n 3, 1) := by decide +kernel
theorem dX5_kept_53 : decode cX5_kept 53 = .ok (.getfield 163, 3) := by decide +kernel
theorem dX5_kept_56 : decode cX5_kept 56 = .ok (.iload_n 2, 1) := by decide +kernel
theorem dX5_kept_57 : decode cX5_kept 57 = .ok (.laload, 1) := by decide +kernel
theorem dX5_kept_58 : decode cX5_kept 58 = .ok (.invokevirtual 178, 3) := by decide +kernel
theorem dX5_kept_61 : decode cX5_kept 61 = .ok (.aload_n 0, 1) := by decide +kernel
theorem dX5_kept_62 : decode cX5_kept 62 = .ok (.getfield 30, 3) := by decide +kernel
theorem dX5_kept_65 : decode cX5_kept 65 = .ok (.invokevirtual 182, 3) := by decide +kernel
theorem dX5_kept_68 : decode cX5_kept 68 = .ok (.ireturn, 1) := by decide +kernel
theorem dX2_keptAgainst_0 : decode cX2_keptAgainst 0 = .ok (.aload_n 0, 1) := by decide +kernel
theorem dX2_keptAgainst_1 : decode cX2_keptAgainst 1 = .ok (.getfield 19, 3) := by decide +kernel
theorem dX2_keptAgainst_4 : decode cX2_keptAgainst 4 = .ok (.iload_n 1, 1) := by decide +kernel
theorem dX2_keptAgainst_5 : decode cX2_keptAgainst 5 = .ok (.iaload, 1) := by decide +kernel
theorem dX2_keptAgainst_6 : decode cX2_keptAgainst 6 = .ok (.ifCond .ne 11, 3) := by decide +kernel
theorem dX2_keptAgainst_9 : decode cX2_keptAgainst 9 = .ok (.aload_n 0, 1) := by decide +kernel
theorem dX2_keptAgainst_10 : decode cX2_keptAgainst 10 = .ok (.iload_n 1, 1) := by decide +kernel
theorem dX2_keptAgainst_11 : decode cX2_keptAgainst 11 = .ok (.invokevirtual 74, 3) := by decide +kernel
theorem dX2_keptAgainst_14 : decode cX2_keptAgainst 14 = .ok (.goto 9, 3) := by decide +kernel
theorem dX2_keptAgainst_17 : decode cX2_keptAgainst 17 = .ok (.aload_n 0, 1) := by decide +kernel
theorem dX2_keptAgainst_18 : decode cX2_keptAgainst 18 = .ok (.getfield 26, 3) := by decide +kernel
theorem dX2_keptAgainst_21 : decode cX2_keptAgainst 21 = .ok (.iload_n 1, 1) := by decide +kernel
theorem dX2_keptAgainst_22 : decode cX2_keptAgainst 22 = .ok (.iaload, 1) := by decide +kernel
theorem dX2_keptAgainst_23 : decode cX2_keptAgainst 23 = .ok (.ireturn, 1) := by decide +kernel
theorem dX2_nextOnTrunk_0 : decode cX2_nextOnTrunk 0 = .ok (.iload_n 1, 1) := by decide +kernel
theorem dX2_nextOnTrunk_1 : decode cX2_nextOnTrunk 1 = .ok (.iconst 1, 1) := by decide +kernel
theorem dX2_nextOnTrunk_2 : decode cX2_nextOnTrunk 2 = .ok (.iadd, 1) := by decide +kernel
theorem dX2_nextOnTrunk_3 : decode cX2_nextOnTrunk 3 = .ok (.istore_n 2, 1) := by decide +kernel
theorem dX2_nextOnTrunk_4 : decode cX2_nextOnTrunk 4 = .ok (.iload_n 2, 1) := by decide +kernel
theorem dX2_nextOnTrunk_5 : decode cX2_nextOnTrunk 5 = .ok (.aload_n 0, 1) := by decide +kernel
theorem dX2_nextOnTrunk_6 : decode cX2_nextOnTrunk 6 = .ok (.getfield 29, 3) := by decide +kernel
theorem dX2_nextOnTrunk_9 : decode cX2_nextOnTrunk 9 = .ok (.if_icmp .ge 20, 3) := by decide +kernel
theorem dX2_nextOnTrunk_12 : decode cX2_nextOnTrunk 12 = .ok (.aload_n 0, 1) := by decide +kernel
theorem dX2_nextOnTrunk_13 : decode cX2_nextOnTrunk 13 = .ok (.getfield 19, 3) := by decide +kernel
theorem dX2_nextOnTrunk_16 : decode cX2_nextOnTrunk 16 = .ok (.iload_n 2, 1) := by decide +kernel
theorem dX2_nextOnTrunk_17 : decode cX2_nextOnTrunk 17 = .ok (.iaload, 1) := by decide +kernel
theorem dX2_nextOnTrunk_18 : decode cX2_nextOnTrunk 18 = .ok (.ifCond .ne 5, 3) := by decide +kernel
theorem dX2_nextOnTrunk_21 : decode cX2_nextOnTrunk 21 = .ok (.iload_n 2, 1) := by decide +kernel
theorem dX2_nextOnTrunk_22 : decode cX2_nextOnTrunk 22 = .ok (.ireturn, 1) := by decide +kernel
theorem dX2_nextOnTrunk_23 : decode cX2_nextOnTrunk 23 = .ok (.iinc 2 1, 3) := by decide +kernel
theorem dX2_nextOnTrunk_26 : decode cX2_nextOnTrunk 26 = .ok (.goto (-22), 3) := by decide +kernel
theorem dX2_nextOnTrunk_29 : decode cX2_nextOnTrunk 29 = .ok (.iconst (-1), 1) := by decide +kernel
theorem dX2_nextOnTrunk_30 : decode cX2_nextOnTrunk 30 = .ok (.ireturn, 1) := by decide +kernel
theorem dX1_size_0 : decode cX1_size 0 = .ok (.aload_n 0, 1) := by decide +kernel
theorem dX1_size_1 : decode cX1_size 1 = .ok (.getfield 18, 3) := by decide +kernel
theorem dX1_size_4 : decode cX1_size 4 = .ok (.aload_n 0, 1) := by decide +kernel
theorem dX1_size_5 : decode cX1_size 5 = .ok (.getfield 22, 3) := by decide +kernel
theorem dX1_size_8 : decode cX1_size 8 = .ok (.iadd, 1) := by decide +kernel
theorem dX1_size_9 : decode cX1_size 9 = .ok (.iconst 2, 1) := by decide +kernel
theorem dX1_size_10 : decode cX1_size 10 = .ok (.aload_n 0, 1) := by decide +kernel
theorem dX1_size_11 : decode cX1_size 11 = .ok (.getfield 33, 3) := by decide +kernel
theorem dX1_size_14 : decode cX1_size 14 = .ok (.imul, 1) := by decide +kernel
theorem dX1_size_15 : decode cX1_size 15 = .ok (.isub, 1) := by decide +kernel
theorem dX1_size_16 : decode cX1_size 16 = .ok (.ireturn, 1) := by decide +kernel
theorem dX5_named_0 : decode cX5_named 0 = .ok (.iload_n 1, 1) := by decide +kernel
theorem dX5_named_1 : decode cX5_named 1 = .ok (.invokestatic 45, 3) := by decide +kernel
theorem dX5_named_4 : decode cX5_named 4 = .ok (.ifCond .eq 24, 3) := by decide +kernel
theorem dX5_named_7 : decode cX5_named 7 = .ok (.iload_n 2, 1) := by decide +kernel
theorem dX5_named_8 : decode cX5_named 8 = .ok (.invokestatic 118, 3) := by decide +kernel
theorem dX5_named_11 : decode cX5_named 11 = .ok (.ifCond .eq 17, 3) := by decide +kernel
theorem dX5_named_14 : decode cX5_named 14 = .ok (.aload_n 0, 1) := by decide +kernel
theorem dX5_named_15 : decode cX5_named 15 = .ok (.getfield 11, 3) := by decide +kernel
theorem dX5_named_18 : decode cX5_named 18 = .ok (.iload_n 1, 1) := by decide +kernel
theorem dX5_named_19 : decode cX5_named 19 = .ok (.aaload, 1) := by decide +kernel
theorem dX5_named_20 : decode cX5_named 20 = .ok (.getfield 121, 3) := by decide +kernel
theorem dX5_named_23 : decode cX5_named 23 = .ok (.iload_n 2, 1) := by decide +kernel
theorem dX5_named_24 : decode cX5_named 24 = .ok (.iaload, 1) := by decide +kernel
theorem dX5_named_25 : decode cX5_named 25 = .ok (.goto 4, 3) := by decide +kernel
theorem dX5_named_28 : decode cX5_named 28 = .ok (.iconst (-1), 1) := by decide +kernel
theorem dX5_named_29 : decode cX5_named 29 = .ok (.ireturn, 1) := by decide +kernel
theorem dX5_standard_0 : decode cX5_standard 0 = .ok (.iload_n 1, 1) := by decide +kernel
theorem dX5_standard_1 : decode cX5_standard 1 = .ok (.invokestatic 45, 3) := by decide +kernel
theorem dX5_standard_4 : decode cX5_standard 4 = .ok (.ifCond .eq 27, 3) := by decide +kernel
theorem dX5_standard_7 : decode cX5_standard 7 = .ok (.aload_n 0, 1) := by decide +kernel
theorem dX5_standard_8 : decode cX5_standard 8 = .ok (.getfield 11, 3) := by decide +kernel
theorem dX5_standard_11 : decode cX5_standard 11 = .ok (.iload_n 1, 1) := by decide +kernel
theorem dX5_standard_12 : decode cX5_standard 12 = .ok (.aaload, 1) := by decide +kernel
theorem dX5_standard_13 : decode cX5_standard 13 = .ok (.invokevirtual 135, 3) := by decide +kernel
theorem dX5_standard_16 : decode cX5_standard 16 = .ok (.ifCond .eq 15, 3) := by decide +kernel
theorem dX5_standard_19 : decode cX5_standard 19 = .ok (.aload_n 0, 1) := by decide +kernel
theorem dX5_standard_20 : decode cX5_standard 20 = .ok (.getfield 11, 3) := by decide +kernel
theorem dX5_standard_23 : decode cX5_standard 23 = .ok (.iload_n 1, 1) := by decide +kernel
theorem dX5_standard_24 : decode cX5_standard 24 = .ok (.aaload, 1) := by decide +kernel
theorem dX5_standard_25 : decode cX5_standard 25 = .ok (.getfield 148, 3) := by decide +kernel
theorem dX5_standard_28 : decode cX5_standard 28 = .ok (.goto 4, 3) := by decide +kernel
theorem dX5_standard_31 : decode cX5_standard 31 = .ok (.iconst (-1), 1) := by decide +kernel
theorem dX5_standard_32 : decode cX5_standard 32 = .ok (.ireturn, 1) := by decide +kernel
theorem dX6_init_0 : decode cX6_init 0 = .ok (.aload_n 0, 1) := by decide +kernel
theorem dX6_init_1 : decode cX6_init 1 = .ok (.invokespecial 1, 3) := by decide +kernel
theorem dX6_init_4 : decode cX6_init 4 = .ok (.aload_n 0, 1) := by decide +kernel
theorem dX6_init_5 : decode cX6_init 5 = .ok (.iconst 4, 1) := by decide +kernel
theorem dX6_init_6 : decode cX6_init 6 = .ok (.newarray .int, 2) := by decide +kernel
theorem dX6_init_8 : decode cX6_init 8 = .ok (.putfield 7, 3) := by decide +kernel
theorem dX6_init_11 : decode cX6_init 11 = .ok (.aload_n 0, 1) := by decide +kernel
theorem dX6_init_12 : decode cX6_init 12 = .ok (.bipush 96, 2) := by decide +kernel
theorem dX6_init_14 : decode cX6_init 14 = .ok (.newarray .long, 2) := by decide +kernel
theorem dX6_init_16 : decode cX6_init 16 = .ok (.putfield 13, 3) := by decide +kernel
theorem dX6_init_19 : decode cX6_init 19 = .ok (.aload_n 0, 1) := by decide +kernel
theorem dX6_init_20 : decode cX6_init 20 = .ok (.bipush 96, 2) := by decide +kernel
theorem dX6_init_22 : decode cX6_init 22 = .ok (.newarray .boolean, 2) := by decide +kernel
theorem dX6_init_24 : decode cX6_init 24 = .ok (.putfield 17, 3) := by decide +kernel
theorem dX6_init_27 : decode cX6_init 27 = .ok (.aload_n 0, 1) := by decide +kernel
theorem dX6_init_28 : decode cX6_init 28 = .ok (.bipush 96, 2) := by decide +kernel
theorem dX6_init_30 : decode cX6_init 30 = .ok (.newarray .int, 2) := by decide +kernel
theorem dX6_init_32 : decode cX6_init 32 = .ok (.putfield 21, 3) := by decide +kernel
theorem dX6_init_35 : decode cX6_init 35 = .ok (.aload_n 0, 1) := by decide +kernel
theorem dX6_init_36 : decode cX6_init 36 = .ok (.bipush 96, 2) := by decide +kernel
theorem dX6_init_38 : decode cX6_init 38 = .ok (.newarray .int, 2) := by decide +kernel
theorem dX6_init_40 : decode cX6_init 40 = .ok (.putfield 24, 3) := by decide +kernel
theorem dX6_init_43 : decode cX6_init 43 = .ok (.aload_n 0, 1) := by decide +kernel
theorem dX6_init_44 : decode cX6_init 44 = .ok (.iconst 4, 1) := by decide +kernel
theorem dX6_init_45 : decode cX6_init 45 = .ok (.newarray .int, 2) := by decide +kernel
theorem dX6_init_47 : decode cX6_init 47 = .ok (.putfield 27, 3) := by decide +kernel
theorem dX6_init_50 : decode cX6_init 50 = .ok (.aload_n 0, 1) := by decide +kernel
theorem dX6_init_51 : decode cX6_init 51 = .ok (.bipush 24, 2) := by decide +kernel
theorem dX6_init_53 : decode cX6_init 53 = .ok (.newarray .int, 2) := by decide +kernel
theorem dX6_init_55 : decode cX6_init 55 = .ok (.putfield 30, 3) := by decide +kernel
theorem dX6_init_58 : decode cX6_init 58 = .ok (.aload_n 0, 1) := by decide +kernel
theorem dX6_init_59 : decode cX6_init 59 = .ok (.bipush 24, 2) := by decide +kernel
theorem dX6_init_61 : decode cX6_init 61 = .ok (.newarray .int, 2) := by decide +kernel
theorem dX6_init_63 : decode cX6_init 63 = .ok (.putfield 33, 3) := by decide +kernel
theorem dX6_init_66 : decode cX6_init 66 = .ok (.aload_n 0, 1) := by decide +kernel
theorem dX6_init_67 : decode cX6_init 67 = .ok (.iconst 4, 1) := by decide +kernel
theorem dX6_init_68 : decode cX6_init 68 = .ok (.newarray .int, 2) := by decide +kernel
theorem dX6_init_70 : decode cX6_init 70 = .ok (.putfield 36, 3) := by decide +kernel
theorem dX6_init_73 : decode cX6_init 73 = .ok (.aload_n 0, 1) := by decide +kernel
theorem dX6_init_74 : decode cX6_init 74 = .ok (.iconst 4, 1) := by decide +kernel
theorem dX6_init_75 : decode cX6_init 75 = .ok (.newarray .int, 2) := by decide +kernel
theorem dX6_init_77 : decode cX6_init 77 = .ok (.putfield 39, 3) := by decide +kernel
theorem dX6_init_80 : decode cX6_init 80 = .ok (.aload_n 0, 1) := by decide +kernel
theorem dX6_init_81 : decode cX6_init 81 = .ok (.iconst 5, 1) := by decide +kernel
theorem dX6_init_82 : decode cX6_init 82 = .ok (.newarray .int, 2) := by decide +kernel
theorem dX6_init_84 : decode cX6_init 84 = .ok (.putfield 42, 3) := by decide +kernel
theorem dX6_init_87 : decode cX6_init 87 = .ok (.aload_n 0, 1) := by decide +kernel
theorem dX6_init_88 : decode cX6_init 88 = .ok (.bipush 20, 2) := by decide +kernel
theorem dX6_init_90 : decode cX6_init 90 = .ok (.newarray .int, 2) := by decide +kernel
theorem dX6_init_92 : decode cX6_init 92 = .ok (.putfield 45, 3) := by decide +kernel
theorem dX6_init_95 : decode cX6_init 95 = .ok (.aload_n 0, 1) := by decide +kernel
theorem dX6_init_96 : decode cX6_init 96 = .ok (.bipush 12, 2) := by decide +kernel
theorem dX6_init_98 : decode cX6_init 98 = .ok (.newarray .int, 2) := by decide +kernel
theorem dX6_init_100 : decode cX6_init 100 = .ok (.putfield 48, 3) := by decide +kernel
theorem dX6_init_103 : decode cX6_init 103 = .ok (.aload_n 0, 1) := by decide +kernel
theorem dX6_init_104 : decode cX6_init 104 = .ok (.bipush 12, 2) := by decide +kernel
theorem dX6_init_106 : decode cX6_init 106 = .ok (.newarray .boolean, 2) := by decide +kernel
theorem dX6_init_108 : decode cX6_init 108 = .ok (.putfield 51, 3) := by decide +kernel
theorem dX6_init_111 : decode cX6_init 111 = .ok (.aload_n 0, 1) := by decide +kernel
theorem dX6_init_112 : decode cX6_init 112 = .ok (.bipush 12, 2) := by decide +kernel
theorem dX6_init_114 : decode cX6_init 114 = .ok (.newarray .long, 2) := by decide +kernel
theorem dX6_init_116 : decode cX6_init 116 = .ok (.putfield 54, 3) := by decide +kernel
theorem dX6_init_119 : decode cX6_init 119 = .ok (.aload_n 0, 1) := by decide +kernel
theorem dX6_init_120 : decode cX6_init 120 = .ok (.bipush 12, 2) := by decide +kernel
theorem dX6_init_122 : decode cX6_init 122 = .ok (.newarray .int, 2) := by decide +kernel
theorem dX6_init_124 : decode cX6_init 124 = .ok (.putfield 57, 3) := by decide +kernel
theorem dX6_init_127 : decode cX6_init 127 = .ok (.aload_n 0, 1) := by decide +kernel
theorem dX6_init_128 : decode cX6_init 128 = .ok (.sipush 169, 3) := by decide +kernel
theorem dX6_init_131 : decode cX6_init 131 = .ok (.newarray .int, 2) := by decide +kernel
theorem dX6_init_133 : decode cX6_init 133 = .ok (.putfield 60, 3) := by decide +kernel
theorem dX6_init_136 : decode cX6_init 136 = .ok (.aload_n 0, 1) := by decide +kernel
theorem dX6_init_137 : decode cX6_init 137 = .ok (.bipush 13, 2) := by decide +kernel
theorem dX6_init_139 : decode cX6_init 139 = .ok (.newarray .int, 2) := by decide +kernel
theorem dX6_init_141 : decode cX6_init 141 = .ok (.putfield 63, 3) := by decide +kernel
theorem dX6_init_144 : decode cX6_init 144 = .ok (.aload_n 0, 1) := by decide +kernel
theorem dX6_init_145 : decode cX6_init 145 = .ok (.bipush 13, 2) := by decide +kernel
theorem dX6_init_147 : decode cX6_init 147 = .ok (.newarray .int, 2) := by decide +kernel
theorem dX6_init_149 : decode cX6_init 149 = .ok (.putfield 66, 3) := by decide +kernel
theorem dX6_init_152 : decode cX6_init 152 = .ok (.aload_n 0, 1) := by decide +kernel
theorem dX6_init_153 : decode cX6_init 153 = .ok (.bipush 64, 2) := by decide +kernel
theorem dX6_init_155 : decode cX6_init 155 = .ok (.newarray .int, 2) := by decide +kernel
theorem dX6_init_157 : decode cX6_init 157 = .ok (.putfield 69, 3) := by decide +kernel
theorem dX6_init_160 : decode cX6_init 160 = .ok (.iconst 0, 1) := by decide +kernel
theorem dX6_init_161 : decode cX6_init 161 = .ok (.istore_n 1, 1) := by decide +kernel
theorem dX6_init_162 : decode cX6_init 162 = .ok (.iload_n 1, 1) := by decide +kernel
theorem dX6_init_163 : decode cX6_init 163 = .ok (.bipush 20, 2) := by decide +kernel
theorem dX6_init_165 : decode cX6_init 165 = .ok (.if_icmp .ge 16, 3) := by decide +kernel
theorem dX6_init_168 : decode cX6_init 168 = .ok (.aload_n 0, 1) := by decide +kernel
theorem dX6_init_169 : decode cX6_init 169 = .ok (.getfield 45, 3) := by decide +kernel
theorem dX6_init_172 : decode cX6_init 172 = .ok (.iload_n 1, 1) := by decide +kernel
theorem dX6_init_173 : decode cX6_init 173 = .ok (.iconst (-1), 1) := by decide +kernel
theorem dX6_init_174 : decode cX6_init 174 = .ok (.iastore, 1) := by decide +kernel
theorem dX6_init_175 : decode cX6_init 175 = .ok (.iinc 1 1, 3) := by decide +kernel
theorem dX6_init_178 : decode cX6_init 178 = .ok (.goto (-16), 3) := by decide +kernel
theorem dX6_init_181 : decode cX6_init 181 = .ok (.iconst 0, 1) := by decide +kernel
theorem dX6_init_182 : decode cX6_init 182 = .ok (.istore_n 1, 1) := by decide +kernel
theorem dX6_init_183 : decode cX6_init 183 = .ok (.iload_n 1, 1) := by decide +kernel
theorem dX6_init_184 : decode cX6_init 184 = .ok (.iconst 4, 1) := by decide +kernel
theorem dX6_init_185 : decode cX6_init 185 = .ok (.if_icmp .ge 16, 3) := by decide +kernel
theorem dX6_init_188 : decode cX6_init 188 = .ok (.aload_n 0, 1) := by decide +kernel
theorem dX6_init_189 : decode cX6_init 189 = .ok (.getfield 36, 3) := by decide +kernel
theorem dX6_init_192 : decode cX6_init 192 = .ok (.iload_n 1, 1) := by decide +kernel
theorem dX6_init_193 : decode cX6_init 193 = .ok (.iconst (-1), 1) := by decide +kernel
theorem dX6_init_194 : decode cX6_init 194 = .ok (.iastore, 1) := by decide +kernel
theorem dX6_init_195 : decode cX6_init 195 = .ok (.iinc 1 1, 3) := by decide +kernel
theorem dX6_init_198 : decode cX6_init 198 = .ok (.goto (-15), 3) := by decide +kernel
theorem dX6_init_201 : decode cX6_init 201 = .ok (.iconst 0, 1) := by decide +kernel
theorem dX6_init_202 : decode cX6_init 202 = .ok (.istore_n 1, 1) := by decide +kernel
theorem dX6_init_203 : decode cX6_init 203 = .ok (.iload_n 1, 1) := by decide +kernel
theorem dX6_init_204 : decode cX6_init 204 = .ok (.bipush 12, 2) := by decide +kernel
theorem dX6_init_206 : decode cX6_init 206 = .ok (.if_icmp .ge 23, 3) := by decide +kernel
theorem dX6_init_209 : decode cX6_init 209 = .ok (.aload_n 0, 1) := by decide +kernel
theorem dX6_init_210 : decode cX6_init 210 = .ok (.getfield 48, 3) := by decide +kernel
theorem dX6_init_213 : decode cX6_init 213 = .ok (.iload_n 1, 1) := by decide +kernel
theorem dX6_init_214 : decode cX6_init 214 = .ok (.iconst (-1), 1) := by decide +kernel
theorem dX6_init_215 : decode cX6_init 215 = .ok (.iastore, 1) := by decide +kernel
theorem dX6_init_216 : decode cX6_init 216 = .ok (.aload_n 0, 1) := by decide +kernel
theorem dX6_init_217 : decode cX6_init 217 = .ok (.getfield 57, 3) := by decide +kernel
theorem dX6_init_220 : decode cX6_init 220 = .ok (.iload_n 1, 1) := by decide +kernel
theorem dX6_init_221 : decode cX6_init 221 = .ok (.iconst (-1), 1) := by decide +kernel
theorem dX6_init_222 : decode cX6_init 222 = .ok (.iastore, 1) := by decide +kernel
theorem dX6_init_223 : decode cX6_init 223 = .ok (.iinc 1 1, 3) := by decide +kernel
theorem dX6_init_226 : decode cX6_init 226 = .ok (.goto (-23), 3) := by decide +kernel
theorem dX6_init_229 : decode cX6_init 229 = .ok (.return_, 1) := by decide +kernel
theorem dX6_add_0 : decode cX6_add 0 = .ok (.iload_n 1, 1) := by decide +kernel
theorem dX6_add_1 : decode cX6_add 1 = .ok (.iload_n 2, 1) := by decide +kernel
theorem dX6_add_2 : decode cX6_add 2 = .ok (.invokestatic 120, 3) := by decide +kernel
theorem dX6_add_5 : decode cX6_add 5 = .ok (.ifCond .ne 31, 3) := by decide +kernel
theorem dX6_add_8 : decode cX6_add 8 = .ok (.aload_n 0, 1) := by decide +kernel
theorem dX6_add_9 : decode cX6_add 9 = .ok (.getfield 48, 3) := by decide +kernel
theorem dX6_add_12 : decode cX6_add 12 = .ok (.iconst 4, 1) := by decide +kernel
theorem dX6_add_13 : decode cX6_add 13 = .ok (.iload_n 1, 1) := by decide +kernel
theorem dX6_add_14 : decode cX6_add 14 = .ok (.imul, 1) := by decide +kernel
theorem dX6_add_15 : decode cX6_add 15 = .ok (.iload_n 2, 1) := by decide +kernel
theorem dX6_add_16 : decode cX6_add 16 = .ok (.iadd, 1) := by decide +kernel
theorem dX6_add_17 : decode cX6_add 17 = .ok (.iaload, 1) := by decide +kernel
theorem dX6_add_18 : decode cX6_add 18 = .ok (.iconst (-1), 1) := by decide +kernel
theorem dX6_add_19 : decode cX6_add 19 = .ok (.if_icmp .ne 17, 3) := by decide +kernel
theorem dX6_add_22 : decode cX6_add 22 = .ok (.lload_n 3, 1) := by decide +kernel
theorem dX6_add_23 : decode cX6_add 23 = .ok (.invokestatic 123, 3) := by decide +kernel
theorem dX6_add_26 : decode cX6_add 26 = .ok (.ifCond .ne 10, 3) := by decide +kernel
theorem dX6_add_29 : decode cX6_add 29 = .ok (.lload_n 3, 1) := by decide +kernel
theorem dX6_add_30 : decode cX6_add 30 = .ok (.invokestatic 127, 3) := by decide +kernel
theorem dX6_add_33 : decode cX6_add 33 = .ok (.ifCond .eq 5, 3) := by decide +kernel
theorem dX6_add_36 : decode cX6_add 36 = .ok (.iconst 0, 1) := by decide +kernel
theorem dX6_add_37 : decode cX6_add 37 = .ok (.ireturn, 1) := by decide +kernel
theorem dX6_add_38 : decode cX6_add 38 = .ok (.aload_n 0, 1) := by decide +kernel
theorem dX6_add_39 : decode cX6_add 39 = .ok (.getfield 48, 3) := by decide +kernel
theorem dX6_add_42 : decode cX6_add 42 = .ok (.iconst 4, 1) := by decide +kernel
theorem dX6_add_43 : decode cX6_add 43 = .ok (.iload_n 1, 1) := by decide +kernel
theorem dX6_add_44 : decode cX6_add 44 = .ok (.imul, 1) := by decide +kernel
theorem dX6_add_45 : decode cX6_add 45 = .ok (.iload_n 2, 1) := by decide +kernel
theorem dX6_add_46 : decode cX6_add 46 = .ok (.iadd, 1) := by decide +kernel
theorem dX6_add_47 : decode cX6_add 47 = .ok (.bipush (-2), 2) := by decide +kernel
theorem dX6_add_49 : decode cX6_add 49 = .ok (.iastore, 1) := by decide +kernel
theorem dX6_add_50 : decode cX6_add 50 = .ok (.aload_n 0, 1) := by decide +kernel
theorem dX6_add_51 : decode cX6_add 51 = .ok (.getfield 51, 3) := by decide +kernel
theorem dX6_add_54 : decode cX6_add 54 = .ok (.iconst 4, 1) := by decide +kernel
theorem dX6_add_55 : decode cX6_add 55 = .ok (.iload_n 1, 1) := by decide +kernel
theorem dX6_add_56 : decode cX6_add 56 = .ok (.imul, 1) := by decide +kernel
theorem dX6_add_57 : decode cX6_add 57 = .ok (.iload_n 2, 1) := by decide +kernel
theorem dX6_add_58 : decode cX6_add 58 = .ok (.iadd, 1) := by decide +kernel
theorem dX6_add_59 : decode cX6_add 59 = .ok (.iconst 0, 1) := by decide +kernel
theorem dX6_add_60 : decode cX6_add 60 = .ok (.bastore, 1) := by decide +kernel
theorem dX6_add_61 : decode cX6_add 61 = .ok (.aload_n 0, 1) := by decide +kernel
theorem dX6_add_62 : decode cX6_add 62 = .ok (.getfield 54, 3) := by decide +kernel
theorem dX6_add_65 : decode cX6_add 65 = .ok (.iconst 4, 1) := by decide +kernel
theorem dX6_add_66 : decode cX6_add 66 = .ok (.iload_n 1, 1) := by decide +kernel
theorem dX6_add_67 : decode cX6_add 67 = .ok (.imul, 1) := by decide +kernel
theorem dX6_add_68 : decode cX6_add 68 = .ok (.iload_n 2, 1) := by decide +kernel
theorem dX6_add_69 : decode cX6_add 69 = .ok (.iadd, 1) := by decide +kernel
theorem dX6_add_70 : decode cX6_add 70 = .ok (.lload_n 3, 1) := by decide +kernel
theorem dX6_add_71 : decode cX6_add 71 = .ok (.lastore, 1) := by decide +kernel
theorem dX6_add_72 : decode cX6_add 72 = .ok (.iconst 1, 1) := by decide +kernel
theorem dX6_add_73 : decode cX6_add 73 = .ok (.ireturn, 1) := by decide +kernel
theorem dX6_noPair_0 : decode cX6_noPair 0 = .ok (.iload_n 0, 1) := by decide +kernel
theorem dX6_noPair_1 : decode cX6_noPair 1 = .ok (.iconst 3, 1) := by decide +kernel
theorem dX6_noPair_2 : decode cX6_noPair 2 = .ok (.invokestatic 72, 3) := by decide +kernel
theorem dX6_noPair_5 : decode cX6_noPair 5 = .ok (.ifCond .eq 11, 3) := by decide +kernel
theorem dX6_noPair_8 : decode cX6_noPair 8 = .ok (.iload_n 1, 1) := by decide +kernel
theorem dX6_noPair_9 : decode cX6_noPair 9 = .ok (.iconst 4, 1) := by decide +kernel
theorem dX6_noPair_10 : decode cX6_noPair 10 = .ok (.invokestatic 72, 3) := by decide +kernel
theorem dX6_noPair_13 : decode cX6_noPair 13 = .ok (.ifCond .ne 7, 3) := by decide +kernel
theorem dX6_noPair_16 : decode cX6_noPair 16 = .ok (.iconst 1, 1) := by decide +kernel
theorem dX6_noPair_17 : decode cX6_noPair 17 = .ok (.goto 4, 3) := by decide +kernel
theorem dX6_noPair_20 : decode cX6_noPair 20 = .ok (.iconst 0, 1) := by decide +kernel
theorem dX6_noPair_21 : decode cX6_noPair 21 = .ok (.ireturn, 1) := by decide +kernel
theorem dX6_below_0 : decode cX6_below 0 = .ok (.iload_n 0, 1) := by decide +kernel
theorem dX6_below_1 : decode cX6_below 1 = .ok (.ifCond .lt 12, 3) := by decide +kernel
theorem dX6_below_4 : decode cX6_below 4 = .ok (.iload_n 0, 1) := by decide +kernel
theorem dX6_below_5 : decode cX6_below 5 = .ok (.iload_n 1, 1) := by decide +kernel
theorem dX6_below_6 : decode cX6_below 6 = .ok (.if_icmp .ge 7, 3) := by decide +kernel
theorem dX6_below_9 : decode cX6_below 9 = .ok (.iconst 1, 1) := by decide +kernel
theorem dX6_below_10 : decode cX6_below 10 = .ok (.goto 4, 3) := by decide +kernel
theorem dX6_below_13 : decode cX6_below 13 = .ok (.iconst 0, 1) := by decide +kernel
theorem dX6_below_14 : decode cX6_below 14 = .ok (.ireturn, 1) := by decide +kernel
theorem dX6_noText_0 : decode cX6_noText 0 = .ok (.lload_n 0, 1) := by decide +kernel
theorem dX6_noText_1 : decode cX6_noText 1 = .ok (.lconst 0, 1) := by decide +kernel
theorem dX6_noText_2 : decode cX6_noText 2 = .ok (.lcmp, 1) := by decide +kernel
theorem dX6_noText_3 : decode cX6_noText 3 = .ok (.ifCond .lt 12, 3) := by decide +kernel
theorem dX6_noText_6 : decode cX6_noText 6 = .ok (.lload_n 0, 1) := by decide +kernel
theorem dX6_noText_7 : decode cX6_noText 7 = .ok (.invokestatic 78, 3) := by decide +kernel
theorem dX6_noText_10 : decode cX6_noText 10 = .ok (.bipush 12, 2) := by decide +kernel
theorem dX6_noText_12 : decode cX6_noText 12 = .ok (.if_icmp .le 5, 3) := by decide +kernel
theorem dX6_noText_15 : decode cX6_noText 15 = .ok (.iconst 1, 1) := by decide +kernel
theorem dX6_noText_16 : decode cX6_noText 16 = .ok (.ireturn, 1) := by decide +kernel
theorem dX6_noText_17 : decode cX6_noText 17 = .ok (.iconst 0, 1) := by decide +kernel
theorem dX6_noText_18 : decode cX6_noText 18 = .ok (.istore_n 2, 1) := by decide +kernel
theorem dX6_noText_19 : decode cX6_noText 19 = .ok (.iconst 0, 1) := by decide +kernel
theorem dX6_noText_20 : decode cX6_noText 20 = .ok (.istore_n 3, 1) := by decide +kernel
theorem dX6_noText_21 : decode cX6_noText 21 = .ok (.iload_n 3, 1) := by decide +kernel
theorem dX6_noText_22 : decode cX6_noText 22 = .ok (.lload_n 0, 1) := by decide +kernel
theorem dX6_noText_23 : decode cX6_noText 23 = .ok (.invokestatic 78, 3) := by decide +kernel
theorem dX6_noText_26 : decode cX6_noText 26 = .ok (.if_icmp .ge 38, 3) := by decide +kernel
theorem dX6_noText_29 : decode cX6_noText 29 = .ok (.iload_n 2, 1) := by decide +kernel
theorem dX6_noText_30 : decode cX6_noText 30 = .ok (.ifCond .ne 22, 3) := by decide +kernel
theorem dX6_noText_33 : decode cX6_noText 33 = .ok (.lload_n 0, 1) := by decide +kernel
theorem dX6_noText_34 : decode cX6_noText 34 = .ok (.iload_n 3, 1) := by decide +kernel
theorem dX6_noText_35 : decode cX6_noText 35 = .ok (.invokestatic 84, 3) := by decide +kernel
theorem dX6_noText_38 : decode cX6_noText 38 = .ok (.iconst 1, 1) := by decide +kernel
theorem dX6_noText_39 : decode cX6_noText 39 = .ok (.if_icmp .lt 13, 3) := by decide +kernel
theorem dX6_noText_42 : decode cX6_noText 42 = .ok (.lload_n 0, 1) := by decide +kernel
theorem dX6_noText_43 : decode cX6_noText 43 = .ok (.iload_n 3, 1) := by decide +kernel
theorem dX6_noText_44 : decode cX6_noText 44 = .ok (.invokestatic 84, 3) := by decide +kernel
theorem dX6_noText_47 : decode cX6_noText 47 = .ok (.bipush 19, 2) := by decide +kernel
theorem dX6_noText_49 : decode cX6_noText 49 = .ok (.if_icmp .le 7, 3) := by decide +kernel
theorem dX6_noText_52 : decode cX6_noText 52 = .ok (.iconst 1, 1) := by decide +kernel
theorem dX6_noText_53 : decode cX6_noText 53 = .ok (.goto 4, 3) := by decide +kernel
theorem dX6_noText_56 : decode cX6_noText 56 = .ok (.iconst 0, 1) := by decide +kernel
theorem dX6_noText_57 : decode cX6_noText 57 = .ok (.istore_n 2, 1) := by decide +kernel
theorem dX6_noText_58 : decode cX6_noText 58 = .ok (.iinc 3 1, 3) := by decide +kernel
theorem dX6_noText_61 : decode cX6_noText 61 = .ok (.goto (-40), 3) := by decide +kernel
theorem dX6_noText_64 : decode cX6_noText 64 = .ok (.iload_n 2, 1) := by decide +kernel
theorem dX6_noText_65 : decode cX6_noText 65 = .ok (.ireturn, 1) := by decide +kernel
theorem dX6_size_0 : decode cX6_size 0 = .ok (.iconst 0, 1) := by decide +kernel
theorem dX6_size_1 : decode cX6_size 1 = .ok (.istore_n 2, 1) := by decide +kernel
theorem dX6_size_2 : decode cX6_size 2 = .ok (.lload_n 0, 1) := by decide +kernel
theorem dX6_size_3 : decode cX6_size 3 = .ok (.lstore_n 3, 1) := by decide +kernel
theorem dX6_size_4 : decode cX6_size 4 = .ok (.lload_n 3, 1) := by decide +kernel
theorem dX6_size_5 : decode cX6_size 5 = .ok (.lconst 0, 1) := by decide +kernel
theorem dX6_size_6 : decode cX6_size 6 = .ok (.lcmp, 1) := by decide +kernel
theorem dX6_size_7 : decode cX6_size 7 = .ok (.ifCond .le 15, 3) := by decide +kernel
theorem dX6_size_10 : decode cX6_size 10 = .ok (.iinc 2 1, 3) := by decide +kernel
theorem dX6_size_13 : decode cX6_size 13 = .ok (.lload_n 3, 1) := by decide +kernel
theorem dX6_size_14 : decode cX6_size 14 = .ok (.ldc2_w 76, 3) := by decide +kernel
theorem dX6_size_17 : decode cX6_size 17 = .ok (.ldiv, 1) := by decide +kernel
theorem dX6_size_18 : decode cX6_size 18 = .ok (.lstore_n 3, 1) := by decide +kernel
theorem dX6_size_19 : decode cX6_size 19 = .ok (.goto (-15), 3) := by decide +kernel
theorem dX6_size_22 : decode cX6_size 22 = .ok (.iload_n 2, 1) := by decide +kernel
theorem dX6_size_23 : decode cX6_size 23 = .ok (.ireturn, 1) := by decide +kernel
theorem dX6_lineOf_0 : decode cX6_lineOf 0 = .ok (.lload_n 0, 1) := by decide +kernel
theorem dX6_lineOf_1 : decode cX6_lineOf 1 = .ok (.iconst 5, 1) := by decide +kernel
theorem dX6_lineOf_2 : decode cX6_lineOf 2 = .ok (.lload_n 0, 1) := by decide +kernel
theorem dX6_lineOf_3 : decode cX6_lineOf 3 = .ok (.invokestatic 78, 3) := by decide +kernel
theorem dX6_lineOf_6 : decode cX6_lineOf 6 = .ok (.iconst 1, 1) := by decide +kernel
theorem dX6_lineOf_7 : decode cX6_lineOf 7 = .ok (.isub, 1) := by decide +kernel
theorem dX6_lineOf_8 : decode cX6_lineOf 8 = .ok (.iload_n 2, 1) := by decide +kernel
theorem dX6_lineOf_9 : decode cX6_lineOf 9 = .ok (.isub, 1) := by decide +kernel
theorem dX6_lineOf_10 : decode cX6_lineOf 10 = .ok (.imul, 1) := by decide +kernel
theorem dX6_lineOf_11 : decode cX6_lineOf 11 = .ok (.lshr, 1) := by decide +kernel
theorem dX6_lineOf_12 : decode cX6_lineOf 12 = .ok (.ldc2_w 82, 3) := by decide +kernel
theorem dX6_lineOf_15 : decode cX6_lineOf 15 = .ok (.land, 1) := by decide +kernel
theorem dX6_lineOf_16 : decode cX6_lineOf 16 = .ok (.l2i, 1) := by decide +kernel
theorem dX6_lineOf_17 : decode cX6_lineOf 17 = .ok (.ireturn, 1) := by decide +kernel
theorem dX6_hasMarks_0 : decode cX6_hasMarks 0 = .ok (.iconst 0, 1) := by decide +kernel
theorem dX6_hasMarks_1 : decode cX6_hasMarks 1 = .ok (.istore_n 2, 1) := by decide +kernel
theorem dX6_hasMarks_2 : decode cX6_hasMarks 2 = .ok (.iconst 0, 1) := by decide +kernel
theorem dX6_hasMarks_3 : decode cX6_hasMarks 3 = .ok (.istore_n 3, 1) := by decide +kernel
theorem dX6_hasMarks_4 : decode cX6_hasMarks 4 = .ok (.iload_n 3, 1) := by decide +kernel
theorem dX6_hasMarks_5 : decode cX6_hasMarks 5 = .ok (.lload_n 0, 1) := by decide +kernel
theorem dX6_hasMarks_6 : decode cX6_hasMarks 6 = .ok (.invokestatic 78, 3) := by decide +kernel
theorem dX6_hasMarks_9 : decode cX6_hasMarks 9 = .ok (.if_icmp .ge 29, 3) := by decide +kernel
theorem dX6_hasMarks_12 : decode cX6_hasMarks 12 = .ok (.iload_n 2, 1) := by decide +kernel
theorem dX6_hasMarks_13 : decode cX6_hasMarks 13 = .ok (.ifCond .ne 13, 3) := by decide +kernel
theorem dX6_hasMarks_16 : decode cX6_hasMarks 16 = .ok (.lload_n 0, 1) := by decide +kernel
theorem dX6_hasMarks_17 : decode cX6_hasMarks 17 = .ok (.iload_n 3, 1) := by decide +kernel
theorem dX6_hasMarks_18 : decode cX6_hasMarks 18 = .ok (.invokestatic 84, 3) := by decide +kernel
theorem dX6_hasMarks_21 : decode cX6_hasMarks 21 = .ok (.bipush 16, 2) := by decide +kernel
theorem dX6_hasMarks_23 : decode cX6_hasMarks 23 = .ok (.if_icmp .le 7, 3) := by decide +kernel
theorem dX6_hasMarks_26 : decode cX6_hasMarks 26 = .ok (.iconst 1, 1) := by decide +kernel
theorem dX6_hasMarks_27 : decode cX6_hasMarks 27 = .ok (.goto 4, 3) := by decide +kernel
theorem dX6_hasMarks_30 : decode cX6_hasMarks 30 = .ok (.iconst 0, 1) := by decide +kernel
theorem dX6_hasMarks_31 : decode cX6_hasMarks 31 = .ok (.istore_n 2, 1) := by decide +kernel
theorem dX6_hasMarks_32 : decode cX6_hasMarks 32 = .ok (.iinc 3 1, 3) := by decide +kernel
theorem dX6_hasMarks_35 : decode cX6_hasMarks 35 = .ok (.goto (-31), 3) := by decide +kernel
theorem dX6_hasMarks_38 : decode cX6_hasMarks 38 = .ok (.iload_n 2, 1) := by decide +kernel
theorem dX6_hasMarks_39 : decode cX6_hasMarks 39 = .ok (.ireturn, 1) := by decide +kernel
theorem dX6_edit_0 : decode cX6_edit 0 = .ok (.iload_n 1, 1) := by decide +kernel
theorem dX6_edit_1 : decode cX6_edit 1 = .ok (.iload_n 2, 1) := by decide +kernel
theorem dX6_edit_2 : decode cX6_edit 2 = .ok (.invokestatic 120, 3) := by decide +kernel
theorem dX6_edit_5 : decode cX6_edit 5 = .ok (.ifCond .ne 22, 3) := by decide +kernel
theorem dX6_edit_8 : decode cX6_edit 8 = .ok (.aload_n 0, 1) := by decide +kernel
theorem dX6_edit_9 : decode cX6_edit 9 = .ok (.iconst 4, 1) := by decide +kernel
theorem dX6_edit_10 : decode cX6_edit 10 = .ok (.iload_n 1, 1) := by decide +kernel
theorem dX6_edit_11 : decode cX6_edit 11 = .ok (.imul, 1) := by decide +kernel
theorem dX6_edit_12 : decode cX6_edit 12 = .ok (.iload_n 2, 1) := by decide +kernel
theorem dX6_edit_13 : decode cX6_edit 13 = .ok (.iadd, 1) := by decide +kernel
theorem dX6_edit_14 : decode cX6_edit 14 = .ok (.invokevirtual 130, 3) := by decide +kernel
theorem dX6_edit_17 : decode cX6_edit 17 = .ok (.ifCond .eq 10, 3) := by decide +kernel
theorem dX6_edit_20 : decode cX6_edit 20 = .ok (.lload_n 3, 1) := by decide +kernel
theorem dX6_edit_21 : decode cX6_edit 21 = .ok (.invokestatic 123, 3) := by decide +kernel
theorem dX6_edit_24 : decode cX6_edit 24 = .ok (.ifCond .eq 5, 3) := by decide +kernel
theorem dX6_edit_27 : decode cX6_edit 27 = .ok (.iconst 0, 1) := by decide +kernel
theorem dX6_edit_28 : decode cX6_edit 28 = .ok (.ireturn, 1) := by decide +kernel
theorem dX6_edit_29 : decode cX6_edit 29 = .ok (.aload_n 0, 1) := by decide +kernel
theorem dX6_edit_30 : decode cX6_edit 30 = .ok (.getfield 54, 3) := by decide +kernel
theorem dX6_edit_33 : decode cX6_edit 33 = .ok (.iconst 4, 1) := by decide +kernel
theorem dX6_edit_34 : decode cX6_edit 34 = .ok (.iload_n 1, 1) := by decide +kernel
theorem dX6_edit_35 : decode cX6_edit 35 = .ok (.imul, 1) := by decide +kernel
theorem dX6_edit_36 : decode cX6_edit 36 = .ok (.iload_n 2, 1) := by decide +kernel
theorem dX6_edit_37 : decode cX6_edit 37 = .ok (.iadd, 1) := by decide +kernel
theorem dX6_edit_38 : decode cX6_edit 38 = .ok (.lload_n 3, 1) := by decide +kernel
theorem dX6_edit_39 : decode cX6_edit 39 = .ok (.lastore, 1) := by decide +kernel
theorem dX6_edit_40 : decode cX6_edit 40 = .ok (.iconst 1, 1) := by decide +kernel
theorem dX6_edit_41 : decode cX6_edit 41 = .ok (.ireturn, 1) := by decide +kernel
theorem dX6_hasLocal_0 : decode cX6_hasLocal 0 = .ok (.aload_n 0, 1) := by decide +kernel
theorem dX6_hasLocal_1 : decode cX6_hasLocal 1 = .ok (.getfield 48, 3) := by decide +kernel
theorem dX6_hasLocal_4 : decode cX6_hasLocal 4 = .ok (.iload_n 1, 1) := by decide +kernel
theorem dX6_hasLocal_5 : decode cX6_hasLocal 5 = .ok (.iaload, 1) := by decide +kernel
theorem dX6_hasLocal_6 : decode cX6_hasLocal 6 = .ok (.iconst (-1), 1) := by decide +kernel
theorem dX6_hasLocal_7 : decode cX6_hasLocal 7 = .ok (.if_icmp .eq 16, 3) := by decide +kernel
theorem dX6_hasLocal_10 : decode cX6_hasLocal 10 = .ok (.aload_n 0, 1) := by decide +kernel
theorem dX6_hasLocal_11 : decode cX6_hasLocal 11 = .ok (.getfield 51, 3) := by decide +kernel
theorem dX6_hasLocal_14 : decode cX6_hasLocal 14 = .ok (.iload_n 1, 1) := by decide +kernel
theorem dX6_hasLocal_15 : decode cX6_hasLocal 15 = .ok (.baload, 1) := by decide +kernel
theorem dX6_hasLocal_16 : decode cX6_hasLocal 16 = .ok (.ifCond .ne 7, 3) := by decide +kernel
theorem dX6_hasLocal_19 : decode cX6_hasLocal 19 = .ok (.iconst 1, 1) := by decide +kernel
theorem dX6_hasLocal_20 : decode cX6_hasLocal 20 = .ok (.goto 4, 3) := by decide +kernel
theorem dX6_hasLocal_23 : decode cX6_hasLocal 23 = .ok (.iconst 0, 1) := by decide +kernel
theorem dX6_hasLocal_24 : decode cX6_hasLocal 24 = .ok (.ireturn, 1) := by decide +kernel
theorem dX6_remove_0 : decode cX6_remove 0 = .ok (.iconst 4, 1) := by decide +kernel
theorem dX6_remove_1 : decode cX6_remove 1 = .ok (.iload_n 1, 1) := by decide +kernel
theorem dX6_remove_2 : decode cX6_remove 2 = .ok (.imul, 1) := by decide +kernel
theorem dX6_remove_3 : decode cX6_remove 3 = .ok (.iload_n 2, 1) := by decide +kernel
theorem dX6_remove_4 : decode cX6_remove 4 = .ok (.iadd, 1) := by decide +kernel
theorem dX6_remove_5 : decode cX6_remove 5 = .ok (.istore_n 3, 1) := by decide +kernel
theorem dX6_remove_6 : decode cX6_remove 6 = .ok (.iload_n 1, 1) := by decide +kernel
theorem dX6_remove_7 : decode cX6_remove 7 = .ok (.iload_n 2, 1) := by decide +kernel
theorem dX6_remove_8 : decode cX6_remove 8 = .ok (.invokestatic 120, 3) := by decide +kernel
theorem dX6_remove_11 : decode cX6_remove 11 = .ok (.ifCond .ne 11, 3) := by decide +kernel
theorem dX6_remove_14 : decode cX6_remove 14 = .ok (.aload_n 0, 1) := by decide +kernel
theorem dX6_remove_15 : decode cX6_remove 15 = .ok (.iload_n 3, 1) := by decide +kernel
theorem dX6_remove_16 : decode cX6_remove 16 = .ok (.invokevirtual 130, 3) := by decide +kernel
theorem dX6_remove_19 : decode cX6_remove 19 = .ok (.ifCond .ne 5, 3) := by decide +kernel
theorem dX6_remove_22 : decode cX6_remove 22 = .ok (.iconst 0, 1) := by decide +kernel
theorem dX6_remove_23 : decode cX6_remove 23 = .ok (.ireturn, 1) := by decide +kernel
theorem dX6_remove_24 : decode cX6_remove 24 = .ok (.aload_n 0, 1) := by decide +kernel
theorem dX6_remove_25 : decode cX6_remove 25 = .ok (.getfield 48, 3) := by decide +kernel
theorem dX6_remove_28 : decode cX6_remove 28 = .ok (.iload_n 3, 1) := by decide +kernel
theorem dX6_remove_29 : decode cX6_remove 29 = .ok (.iaload, 1) := by decide +kernel
theorem dX6_remove_30 : decode cX6_remove 30 = .ok (.bipush (-2), 2) := by decide +kernel
theorem dX6_remove_32 : decode cX6_remove 32 = .ok (.if_icmp .ne 13, 3) := by decide +kernel
theorem dX6_remove_35 : decode cX6_remove 35 = .ok (.aload_n 0, 1) := by decide +kernel
theorem dX6_remove_36 : decode cX6_remove 36 = .ok (.getfield 48, 3) := by decide +kernel
theorem dX6_remove_39 : decode cX6_remove 39 = .ok (.iload_n 3, 1) := by decide +kernel
theorem dX6_remove_40 : decode cX6_remove 40 = .ok (.iconst (-1), 1) := by decide +kernel
theorem dX6_remove_41 : decode cX6_remove 41 = .ok (.iastore, 1) := by decide +kernel
theorem dX6_remove_42 : decode cX6_remove 42 = .ok (.goto 10, 3) := by decide +kernel
theorem dX6_remove_45 : decode cX6_remove 45 = .ok (.aload_n 0, 1) := by decide +kernel
theorem dX6_remove_46 : decode cX6_remove 46 = .ok (.getfield 51, 3) := by decide +kernel
theorem dX6_remove_49 : decode cX6_remove 49 = .ok (.iload_n 3, 1) := by decide +kernel
theorem dX6_remove_50 : decode cX6_remove 50 = .ok (.iconst 1, 1) := by decide +kernel
theorem dX6_remove_51 : decode cX6_remove 51 = .ok (.bastore, 1) := by decide +kernel
theorem dX6_remove_52 : decode cX6_remove 52 = .ok (.iconst 1, 1) := by decide +kernel
theorem dX6_remove_53 : decode cX6_remove 53 = .ok (.ireturn, 1) := by decide +kernel
theorem dX6_commit_0 : decode cX6_commit 0 = .ok (.iload_n 1, 1) := by decide +kernel
theorem dX6_commit_1 : decode cX6_commit 1 = .ok (.iload_n 2, 1) := by decide +kernel
theorem dX6_commit_2 : decode cX6_commit 2 = .ok (.invokestatic 120, 3) := by decide +kernel
theorem dX6_commit_5 : decode cX6_commit 5 = .ok (.ifCond .ne 17, 3) := by decide +kernel
theorem dX6_commit_8 : decode cX6_commit 8 = .ok (.aload_n 0, 1) := by decide +kernel
theorem dX6_commit_9 : decode cX6_commit 9 = .ok (.getfield 48, 3) := by decide +kernel
theorem dX6_commit_12 : decode cX6_commit 12 = .ok (.iconst 4, 1) := by decide +kernel
theorem dX6_commit_13 : decode cX6_commit 13 = .ok (.iload_n 1, 1) := by decide +kernel
theorem dX6_commit_14 : decode cX6_commit 14 = .ok (.imul, 1) := by decide +kernel
theorem dX6_commit_15 : decode cX6_commit 15 = .ok (.iload_n 2, 1) := by decide +kernel
theorem dX6_commit_16 : decode cX6_commit 16 = .ok (.iadd, 1) := by decide +kernel
theorem dX6_commit_17 : decode cX6_commit 17 = .ok (.iaload, 1) := by decide +kernel
theorem dX6_commit_18 : decode cX6_commit 18 = .ok (.iconst (-1), 1) := by decide +kernel
theorem dX6_commit_19 : decode cX6_commit 19 = .ok (.if_icmp .ne 5, 3) := by decide +kernel
theorem dX6_commit_22 : decode cX6_commit 22 = .ok (.iconst (-1), 1) := by decide +kernel
theorem dX6_commit_23 : decode cX6_commit 23 = .ok (.ireturn, 1) := by decide +kernel
theorem dX6_commit_24 : decode cX6_commit 24 = .ok (.iconst 4, 1) := by decide +kernel
theorem dX6_commit_25 : decode cX6_commit 25 = .ok (.iload_n 1, 1) := by decide +kernel
theorem dX6_commit_26 : decode cX6_commit 26 = .ok (.imul, 1) := by decide +kernel
theorem dX6_commit_27 : decode cX6_commit 27 = .ok (.iload_n 2, 1) := by decide +kernel
theorem dX6_commit_28 : decode cX6_commit 28 = .ok (.iadd, 1) := by decide +kernel
theorem dX6_commit_29 : decode cX6_commit 29 = .ok (.istore_n 3, 1) := by decide +kernel
theorem dX6_commit_30 : decode cX6_commit 30 = .ok (.aload_n 0, 1) := by decide +kernel
theorem dX6_commit_31 : decode cX6_commit 31 = .ok (.iload_n 2, 1) := by decide +kernel
theorem dX6_commit_32 : decode cX6_commit 32 = .ok (.iload_n 3, 1) := by decide +kernel
theorem dX6_commit_33 : decode cX6_commit 33 = .ok (.invokevirtual 143, 3) := by decide +kernel
theorem dX6_commit_36 : decode cX6_commit 36 = .ok (.istore 4, 2) := by decide +kernel
theorem dX6_commit_38 : decode cX6_commit 38 = .ok (.iload 4, 2) := by decide +kernel
theorem dX6_commit_40 : decode cX6_commit 40 = .ok (.ifCond .ge 6, 3) := by decide +kernel
theorem dX6_commit_43 : decode cX6_commit 43 = .ok (.iload 4, 2) := by decide +kernel
theorem dX6_commit_45 : decode cX6_commit 45 = .ok (.ireturn, 1) := by decide +kernel
theorem dX6_commit_46 : decode cX6_commit 46 = .ok (.aload_n 0, 1) := by decide +kernel
theorem dX6_commit_47 : decode cX6_commit 47 = .ok (.getfield 57, 3) := by decide +kernel
theorem dX6_commit_50 : decode cX6_commit 50 = .ok (.iload_n 3, 1) := by decide +kernel
theorem dX6_commit_51 : decode cX6_commit 51 = .ok (.iaload, 1) := by decide +kernel
theorem dX6_commit_52 : decode cX6_commit 52 = .ok (.istore 5, 2) := by decide +kernel
theorem dX6_commit_54 : decode cX6_commit 54 = .ok (.aload_n 0, 1) := by decide +kernel
theorem dX6_commit_55 : decode cX6_commit 55 = .ok (.getfield 7, 3) := by decide +kernel
theorem dX6_commit_58 : decode cX6_commit 58 = .ok (.iload_n 2, 1) := by decide +kernel
theorem dX6_commit_59 : decode cX6_commit 59 = .ok (.iaload, 1) := by decide +kernel
theorem dX6_commit_60 : decode cX6_commit 60 = .ok (.ifCond .ne 24, 3) := by decide +kernel
theorem dX6_commit_63 : decode cX6_commit 63 = .ok (.aload_n 0, 1) := by decide +kernel
theorem dX6_commit_64 : decode cX6_commit 64 = .ok (.getfield 39, 3) := by decide +kernel
theorem dX6_commit_67 : decode cX6_commit 67 = .ok (.iload_n 2, 1) := by decide +kernel
theorem dX6_commit_68 : decode cX6_commit 68 = .ok (.iconst 0, 1) := by decide +kernel
theorem dX6_commit_69 : decode cX6_commit 69 = .ok (.iastore, 1) := by decide +kernel
theorem dX6_commit_70 : decode cX6_commit 70 = .ok (.iload 5, 2) := by decide +kernel
theorem dX6_commit_72 : decode cX6_commit 72 = .ok (.ifCond .lt 12, 3) := by decide +kernel
theorem dX6_commit_75 : decode cX6_commit 75 = .ok (.aload_n 0, 1) := by decide +kernel
theorem dX6_commit_76 : decode cX6_commit 76 = .ok (.iload_n 2, 1) := by decide +kernel
theorem dX6_commit_77 : decode cX6_commit 77 = .ok (.iconst 0, 1) := by decide +kernel
theorem dX6_commit_78 : decode cX6_commit 78 = .ok (.lconst 0, 1) := by decide +kernel
theorem dX6_commit_79 : decode cX6_commit 79 = .ok (.iconst 1, 1) := by decide +kernel
theorem dX6_commit_80 : decode cX6_commit 80 = .ok (.invokevirtual 146, 3) := by decide +kernel
theorem dX6_commit_83 : decode cX6_commit 83 = .ok (.pop, 1) := by decide +kernel
theorem dX6_commit_84 : decode cX6_commit 84 = .ok (.iload 5, 2) := by decide +kernel
theorem dX6_commit_86 : decode cX6_commit 86 = .ok (.ifCond .lt 51, 3) := by decide +kernel
theorem dX6_commit_89 : decode cX6_commit 89 = .ok (.aload_n 0, 1) := by decide +kernel
theorem dX6_commit_90 : decode cX6_commit 90 = .ok (.getfield 45, 3) := by decide +kernel
theorem dX6_commit_93 : decode cX6_commit 93 = .ok (.iconst 5, 1) := by decide +kernel
theorem dX6_commit_94 : decode cX6_commit 94 = .ok (.iload_n 2, 1) := by decide +kernel
theorem dX6_commit_95 : decode cX6_commit 95 = .ok (.imul, 1) := by decide +kernel
theorem dX6_commit_96 : decode cX6_commit 96 = .ok (.iload 5, 2) := by decide +kernel
theorem dX6_commit_98 : decode cX6_commit 98 = .ok (.iadd, 1) := by decide +kernel
theorem dX6_commit_99 : decode cX6_commit 99 = .ok (.iaload, 1) := by decide +kernel
theorem dX6_commit_100 : decode cX6_commit 100 = .ok (.iconst (-1), 1) := by decide +kernel
theorem dX6_commit_101 : decode cX6_commit 101 = .ok (.if_icmp .ne 36, 3) := by decide +kernel
theorem dX6_commit_104 : decode cX6_commit 104 = .ok (.aload_n 0, 1) := by decide +kernel
theorem dX6_commit_105 : decode cX6_commit 105 = .ok (.iload_n 2, 1) := by decide +kernel
theorem dX6_commit_106 : decode cX6_commit 106 = .ok (.iconst 0, 1) := by decide +kernel
theorem dX6_commit_107 : decode cX6_commit 107 = .ok (.invokevirtual 116, 3) := by decide +kernel
theorem dX6_commit_110 : decode cX6_commit 110 = .ok (.istore 6, 2) := by decide +kernel
theorem dX6_commit_112 : decode cX6_commit 112 = .ok (.aload_n 0, 1) := by decide +kernel
theorem dX6_commit_113 : decode cX6_commit 113 = .ok (.getfield 45, 3) := by decide +kernel
theorem dX6_commit_116 : decode cX6_commit 116 = .ok (.iconst 5, 1) := by decide +kernel
theorem dX6_commit_117 : decode cX6_commit 117 = .ok (.iload_n 2, 1) := by decide +kernel
theorem dX6_commit_118 : decode cX6_commit 118 = .ok (.imul, 1) := by decide +kernel
theorem dX6_commit_119 : decode cX6_commit 119 = .ok (.iload 5, 2) := by decide +kernel
theorem dX6_commit_121 : decode cX6_commit 121 = .ok (.iadd, 1) := by decide +kernel
theorem dX6_commit_122 : decode cX6_commit 122 = .ok (.aload_n 0, 1) := by decide +kernel
theorem dX6_commit_123 : decode cX6_commit 123 = .ok (.iload_n 2, 1) := by decide +kernel
theorem dX6_commit_124 : decode cX6_commit 124 = .ok (.iload 6, 2) := by decide +kernel
theorem dX6_commit_126 : decode cX6_commit 126 = .ok (.aload_n 0, 1) := by decide +kernel
theorem dX6_commit_127 : decode cX6_commit 127 = .ok (.iload_n 2, 1) := by decide +kernel
theorem dX6_commit_128 : decode cX6_commit 128 = .ok (.iload 6, 2) := by decide +kernel
theorem dX6_commit_130 : decode cX6_commit 130 = .ok (.invokevirtual 150, 3) := by decide +kernel
theorem dX6_commit_133 : decode cX6_commit 133 = .ok (.invokevirtual 153, 3) := by decide +kernel
theorem dX6_commit_136 : decode cX6_commit 136 = .ok (.iastore, 1) := by decide +kernel
theorem dX6_commit_137 : decode cX6_commit 137 = .ok (.iload 5, 2) := by decide +kernel
theorem dX6_commit_139 : decode cX6_commit 139 = .ok (.ifCond .ge 10, 3) := by decide +kernel
theorem dX6_commit_142 : decode cX6_commit 142 = .ok (.aload_n 0, 1) := by decide +kernel
theorem dX6_commit_143 : decode cX6_commit 143 = .ok (.getfield 39, 3) := by decide +kernel
theorem dX6_commit_146 : decode cX6_commit 146 = .ok (.iload_n 2, 1) := by decide +kernel
theorem dX6_commit_147 : decode cX6_commit 147 = .ok (.iconst 0, 1) := by decide +kernel
theorem dX6_commit_148 : decode cX6_commit 148 = .ok (.iastore, 1) := by decide +kernel
theorem dX6_commit_149 : decode cX6_commit 149 = .ok (.aload_n 0, 1) := by decide +kernel
theorem dX6_commit_150 : decode cX6_commit 150 = .ok (.getfield 51, 3) := by decide +kernel
theorem dX6_commit_153 : decode cX6_commit 153 = .ok (.iload_n 3, 1) := by decide +kernel
theorem dX6_commit_154 : decode cX6_commit 154 = .ok (.baload, 1) := by decide +kernel
theorem dX6_commit_155 : decode cX6_commit 155 = .ok (.ifCond .eq 22, 3) := by decide +kernel
theorem dX6_commit_158 : decode cX6_commit 158 = .ok (.aload_n 0, 1) := by decide +kernel
theorem dX6_commit_159 : decode cX6_commit 159 = .ok (.getfield 13, 3) := by decide +kernel
theorem dX6_commit_162 : decode cX6_commit 162 = .ok (.bipush 24, 2) := by decide +kernel
theorem dX6_commit_164 : decode cX6_commit 164 = .ok (.iload_n 2, 1) := by decide +kernel
theorem dX6_commit_165 : decode cX6_commit 165 = .ok (.imul, 1) := by decide +kernel
theorem dX6_commit_166 : decode cX6_commit 166 = .ok (.aload_n 0, 1) := by decide +kernel
theorem dX6_commit_167 : decode cX6_commit 167 = .ok (.getfield 48, 3) := by decide +kernel
theorem dX6_commit_170 : decode cX6_commit 170 = .ok (.iload_n 3, 1) := by decide +kernel
theorem dX6_commit_171 : decode cX6_commit 171 = .ok (.iaload, 1) := by decide +kernel
theorem dX6_commit_172 : decode cX6_commit 172 = .ok (.iadd, 1) := by decide +kernel
theorem dX6_commit_173 : decode cX6_commit 173 = .ok (.laload, 1) := by decide +kernel
theorem dX6_commit_174 : decode cX6_commit 174 = .ok (.goto 9, 3) := by decide +kernel
theorem dX6_commit_177 : decode cX6_commit 177 = .ok (.aload_n 0, 1) := by decide +kernel
theorem dX6_commit_178 : decode cX6_commit 178 = .ok (.getfield 54, 3) := by decide +kernel
theorem dX6_commit_181 : decode cX6_commit 181 = .ok (.iload_n 3, 1) := by decide +kernel
theorem dX6_commit_182 : decode cX6_commit 182 = .ok (.laload, 1) := by decide +kernel
theorem dX6_commit_183 : decode cX6_commit 183 = .ok (.lstore 6, 2) := by decide +kernel
theorem dX6_commit_185 : decode cX6_commit 185 = .ok (.aload_n 0, 1) := by decide +kernel
theorem dX6_commit_186 : decode cX6_commit 186 = .ok (.iload_n 2, 1) := by decide +kernel
theorem dX6_commit_187 : decode cX6_commit 187 = .ok (.iload 5, 2) := by decide +kernel
theorem dX6_commit_189 : decode cX6_commit 189 = .ok (.ifCond .ge 7, 3) := by decide +kernel
theorem dX6_commit_192 : decode cX6_commit 192 = .ok (.iconst 0, 1) := by decide +kernel
theorem dX6_commit_193 : decode cX6_commit 193 = .ok (.goto 14, 3) := by decide +kernel
theorem dX6_commit_196 : decode cX6_commit 196 = .ok (.aload_n 0, 1) := by decide +kernel
theorem dX6_commit_197 : decode cX6_commit 197 = .ok (.getfield 45, 3) := by decide +kernel
theorem dX6_commit_200 : decode cX6_commit 200 = .ok (.iconst 5, 1) := by decide +kernel
theorem dX6_commit_201 : decode cX6_commit 201 = .ok (.iload_n 2, 1) := by decide +kernel
theorem dX6_commit_202 : decode cX6_commit 202 = .ok (.imul, 1) := by decide +kernel
theorem dX6_commit_203 : decode cX6_commit 203 = .ok (.iload 5, 2) := by decide +kernel
theorem dX6_commit_205 : decode cX6_commit 205 = .ok (.iadd, 1) := by decide +kernel
theorem dX6_commit_206 : decode cX6_commit 206 = .ok (.iaload, 1) := by decide +kernel
theorem dX6_commit_207 : decode cX6_commit 207 = .ok (.lload 6, 2) := by decide +kernel
theorem dX6_commit_209 : decode cX6_commit 209 = .ok (.aload_n 0, 1) := by decide +kernel
theorem dX6_commit_210 : decode cX6_commit 210 = .ok (.getfield 51, 3) := by decide +kernel
theorem dX6_commit_213 : decode cX6_commit 213 = .ok (.iload_n 3, 1) := by decide +kernel
theorem dX6_commit_214 : decode cX6_commit 214 = .ok (.baload, 1) := by decide +kernel
theorem dX6_commit_215 : decode cX6_commit 215 = .ok (.invokevirtual 146, 3) := by decide +kernel
theorem dX6_commit_218 : decode cX6_commit 218 = .ok (.istore 8, 2) := by decide +kernel
theorem dX6_commit_220 : decode cX6_commit 220 = .ok (.aload_n 0, 1) := by decide +kernel
theorem dX6_commit_221 : decode cX6_commit 221 = .ok (.getfield 48, 3) := by decide +kernel
theorem dX6_commit_224 : decode cX6_commit 224 = .ok (.iload_n 3, 1) := by decide +kernel
theorem dX6_commit_225 : decode cX6_commit 225 = .ok (.aload_n 0, 1) := by decide +kernel
theorem dX6_commit_226 : decode cX6_commit 226 = .ok (.getfield 51, 3) := by decide +kernel
theorem dX6_commit_229 : decode cX6_commit 229 = .ok (.iload_n 3, 1) := by decide +kernel
theorem dX6_commit_230 : decode cX6_commit 230 = .ok (.baload, 1) := by decide +kernel
theorem dX6_commit_231 : decode cX6_commit 231 = .ok (.ifCond .eq 7, 3) := by decide +kernel
theorem dX6_commit_234 : decode cX6_commit 234 = .ok (.iconst (-1), 1) := by decide +kernel
theorem dX6_commit_235 : decode cX6_commit 235 = .ok (.goto 5, 3) := by decide +kernel
theorem dX6_commit_238 : decode cX6_commit 238 = .ok (.iload 8, 2) := by decide +kernel
theorem dX6_commit_240 : decode cX6_commit 240 = .ok (.iastore, 1) := by decide +kernel
theorem dX6_commit_241 : decode cX6_commit 241 = .ok (.aload_n 0, 1) := by decide +kernel
theorem dX6_commit_242 : decode cX6_commit 242 = .ok (.getfield 51, 3) := by decide +kernel
theorem dX6_commit_245 : decode cX6_commit 245 = .ok (.iload_n 3, 1) := by decide +kernel
theorem dX6_commit_246 : decode cX6_commit 246 = .ok (.iconst 0, 1) := by decide +kernel
theorem dX6_commit_247 : decode cX6_commit 247 = .ok (.bastore, 1) := by decide +kernel
theorem dX6_commit_248 : decode cX6_commit 248 = .ok (.iload 8, 2) := by decide +kernel
theorem dX6_commit_250 : decode cX6_commit 250 = .ok (.ireturn, 1) := by decide +kernel
end
section
/-! what the bytes say -/
theorem dX6_bars_0 : decode cX6_bars 0 = .ok (.aload_n 0, 1) := by decide +kernel
theorem dX6_bars_1 : decode cX6_bars 1 = .ok (.getfield 48, 3) := by decide +kernel
theorem dX6_bars_4 : decode cX6_bars 4 = .ok (.iload_n 2, 1) := by decide +kernel
theorem dX6_bars_5 : decode cX6_bars 5 = .ok (.iaload, 1) := by decide +kernel
theorem dX6_bars_6 : decode cX6_bars 6 = .ok (.istore_n 3, 1) := by decide +kernel
theorem dX6_bars_7 : decode cX6_bars 7 = .ok (.aload_n 0, 1) := by decide +kernel
theorem dX6_bars_8 : decode cX6_bars 8 = .ok (.getfield 57, 3) := by decide +kernel
theorem dX6_bars_11 : decode cX6_bars 11 = .ok (.iload_n 2, 1) := by decide +kernel
theorem dX6_bars_12 : decode cX6_bars 12 = .ok (.iaload, 1) := by decide +kernel
theorem dX6_bars_13 : decode cX6_bars 13 = .ok (.istore 4, 2) := by decide +kernel
theorem dX6_bars_15 : decode cX6_bars 15 = .ok (.aload_n 0, 1) := by decide +kernel
theorem dX6_bars_16 : decode cX6_bars 16 = .ok (.iload_n 1, 1) := by decide +kernel
theorem dX6_bars_17 : decode cX6_bars 17 = .ok (.iload 4, 2) := by decide +kernel
theorem dX6_bars_19 : decode cX6_bars 19 = .ok (.invokevirtual 134, 3) := by decide +kernel
theorem dX6_bars_22 : decode cX6_bars 22 = .ok (.istore 5, 2) := by decide +kernel
theorem dX6_bars_24 : decode cX6_bars 24 = .ok (.iload 4, 2) := by decide +kernel
theorem dX6_bars_26 : decode cX6_bars 26 = .ok (.ifCond .lt 17, 3) := by decide +kernel
theorem dX6_bars_29 : decode cX6_bars 29 = .ok (.aload_n 0, 1) := by decide +kernel
theorem dX6_bars_30 : decode cX6_bars 30 = .ok (.getfield 42, 3) := by decide +kernel
theorem dX6_bars_33 : decode cX6_bars 33 = .ok (.iload 4, 2) := by decide +kernel
theorem dX6_bars_35 : decode cX6_bars 35 = .ok (.iaload, 1) := by decide +kernel
theorem dX6_bars_36 : decode cX6_bars 36 = .ok (.iconst 1, 1) := by decide +kernel
theorem dX6_bars_37 : decode cX6_bars 37 = .ok (.if_icmp .ne 6, 3) := by decide +kernel
theorem dX6_bars_40 : decode cX6_bars 40 = .ok (.bipush (-3), 2) := by decide +kernel
theorem dX6_bars_42 : decode cX6_bars 42 = .ok (.ireturn, 1) := by decide +kernel
theorem dX6_bars_43 : decode cX6_bars 43 = .ok (.iload_n 3, 1) := by decide +kernel
theorem dX6_bars_44 : decode cX6_bars 44 = .ok (.bipush (-2), 2) := by decide +kernel
theorem dX6_bars_46 : decode cX6_bars 46 = .ok (.if_icmp .ne 16, 3) := by decide +kernel
theorem dX6_bars_49 : decode cX6_bars 49 = .ok (.aload_n 0, 1) := by decide +kernel
theorem dX6_bars_50 : decode cX6_bars 50 = .ok (.iload_n 1, 1) := by decide +kernel
theorem dX6_bars_51 : decode cX6_bars 51 = .ok (.iload 5, 2) := by decide +kernel
theorem dX6_bars_53 : decode cX6_bars 53 = .ok (.invokevirtual 137, 3) := by decide +kernel
theorem dX6_bars_56 : decode cX6_bars 56 = .ok (.ifCond .ne 15, 3) := by decide +kernel
theorem dX6_bars_59 : decode cX6_bars 59 = .ok (.goto 9, 3) := by decide +kernel
theorem dX6_bars_62 : decode cX6_bars 62 = .ok (.iload_n 3, 1) := by decide +kernel
theorem dX6_bars_63 : decode cX6_bars 63 = .ok (.iload 5, 2) := by decide +kernel
theorem dX6_bars_65 : decode cX6_bars 65 = .ok (.if_icmp .eq 6, 3) := by decide +kernel
theorem dX6_bars_68 : decode cX6_bars 68 = .ok (.bipush (-4), 2) := by decide +kernel
theorem dX6_bars_70 : decode cX6_bars 70 = .ok (.ireturn, 1) := by decide +kernel
theorem dX6_bars_71 : decode cX6_bars 71 = .ok (.iload_n 3, 1) := by decide +kernel
theorem dX6_bars_72 : decode cX6_bars 72 = .ok (.ifCond .lt 24, 3) := by decide +kernel
theorem dX6_bars_75 : decode cX6_bars 75 = .ok (.aload_n 0, 1) := by decide +kernel
theorem dX6_bars_76 : decode cX6_bars 76 = .ok (.getfield 51, 3) := by decide +kernel
theorem dX6_bars_79 : decode cX6_bars 79 = .ok (.iload_n 2, 1) := by decide +kernel
theorem dX6_bars_80 : decode cX6_bars 80 = .ok (.baload, 1) := by decide +kernel
theorem dX6_bars_81 : decode cX6_bars 81 = .ok (.ifCond .ne 15, 3) := by decide +kernel
theorem dX6_bars_84 : decode cX6_bars 84 = .ok (.aload_n 0, 1) := by decide +kernel
theorem dX6_bars_85 : decode cX6_bars 85 = .ok (.iload_n 1, 1) := by decide +kernel
theorem dX6_bars_86 : decode cX6_bars 86 = .ok (.iload_n 2, 1) := by decide +kernel
theorem dX6_bars_87 : decode cX6_bars 87 = .ok (.invokevirtual 140, 3) := by decide +kernel
theorem dX6_bars_90 : decode cX6_bars 90 = .ok (.ifCond .ne 6, 3) := by decide +kernel
theorem dX6_bars_93 : decode cX6_bars 93 = .ok (.bipush (-5), 2) := by decide +kernel
theorem dX6_bars_95 : decode cX6_bars 95 = .ok (.ireturn, 1) := by decide +kernel
theorem dX6_bars_96 : decode cX6_bars 96 = .ok (.aload_n 0, 1) := by decide +kernel
theorem dX6_bars_97 : decode cX6_bars 97 = .ok (.getfield 51, 3) := by decide +kernel
theorem dX6_bars_100 : decode cX6_bars 100 = .ok (.iload_n 2, 1) := by decide +kernel
theorem dX6_bars_101 : decode cX6_bars 101 = .ok (.baload, 1) := by decide +kernel
theorem dX6_bars_102 : decode cX6_bars 102 = .ok (.ifCond .ne 18, 3) := by decide +kernel
theorem dX6_bars_105 : decode cX6_bars 105 = .ok (.aload_n 0, 1) := by decide +kernel
theorem dX6_bars_106 : decode cX6_bars 106 = .ok (.getfield 54, 3) := by decide +kernel
theorem dX6_bars_109 : decode cX6_bars 109 = .ok (.iload_n 2, 1) := by decide +kernel
theorem dX6_bars_110 : decode cX6_bars 110 = .ok (.laload, 1) := by decide +kernel
theorem dX6_bars_111 : decode cX6_bars 111 = .ok (.invokestatic 127, 3) := by decide +kernel
theorem dX6_bars_114 : decode cX6_bars 114 = .ok (.ifCond .eq 6, 3) := by decide +kernel
theorem dX6_bars_117 : decode cX6_bars 117 = .ok (.bipush (-6), 2) := by decide +kernel
theorem dX6_bars_119 : decode cX6_bars 119 = .ok (.ireturn, 1) := by decide +kernel
theorem dX6_bars_120 : decode cX6_bars 120 = .ok (.iload 4, 2) := by decide +kernel
theorem dX6_bars_122 : decode cX6_bars 122 = .ok (.ifCond .lt 16, 3) := by decide +kernel
theorem dX6_bars_125 : decode cX6_bars 125 = .ok (.aload_n 0, 1) := by decide +kernel
theorem dX6_bars_126 : decode cX6_bars 126 = .ok (.getfield 7, 3) := by decide +kernel
theorem dX6_bars_129 : decode cX6_bars 129 = .ok (.iload_n 1, 1) := by decide +kernel
theorem dX6_bars_130 : decode cX6_bars 130 = .ok (.iaload, 1) := by decide +kernel
theorem dX6_bars_131 : decode cX6_bars 131 = .ok (.ifCond .ne 7, 3) := by decide +kernel
theorem dX6_bars_134 : decode cX6_bars 134 = .ok (.iconst 2, 1) := by decide +kernel
theorem dX6_bars_135 : decode cX6_bars 135 = .ok (.goto 4, 3) := by decide +kernel
theorem dX6_bars_138 : decode cX6_bars 138 = .ok (.iconst 1, 1) := by decide +kernel
theorem dX6_bars_139 : decode cX6_bars 139 = .ok (.istore 6, 2) := by decide +kernel
theorem dX6_bars_141 : decode cX6_bars 141 = .ok (.iload 4, 2) := by decide +kernel
theorem dX6_bars_143 : decode cX6_bars 143 = .ok (.ifCond .lt 22, 3) := by decide +kernel
theorem dX6_bars_146 : decode cX6_bars 146 = .ok (.aload_n 0, 1) := by decide +kernel
theorem dX6_bars_147 : decode cX6_bars 147 = .ok (.getfield 45, 3) := by decide +kernel
theorem dX6_bars_150 : decode cX6_bars 150 = .ok (.iconst 5, 1) := by decide +kernel
theorem dX6_bars_151 : decode cX6_bars 151 = .ok (.iload_n 1, 1) := by decide +kernel
theorem dX6_bars_152 : decode cX6_bars 152 = .ok (.imul, 1) := by decide +kernel
theorem dX6_bars_153 : decode cX6_bars 153 = .ok (.iload 4, 2) := by decide +kernel
theorem dX6_bars_155 : decode cX6_bars 155 = .ok (.iadd, 1) := by decide +kernel
theorem dX6_bars_156 : decode cX6_bars 156 = .ok (.iaload, 1) := by decide +kernel
theorem dX6_bars_157 : decode cX6_bars 157 = .ok (.iconst (-1), 1) := by decide +kernel
theorem dX6_bars_158 : decode cX6_bars 158 = .ok (.if_icmp .ne 7, 3) := by decide +kernel
theorem dX6_bars_161 : decode cX6_bars 161 = .ok (.iconst 1, 1) := by decide +kernel
theorem dX6_bars_162 : decode cX6_bars 162 = .ok (.goto 4, 3) := by decide +kernel
theorem dX6_bars_165 : decode cX6_bars 165 = .ok (.iconst 0, 1) := by decide +kernel
theorem dX6_bars_166 : decode cX6_bars 166 = .ok (.istore 7, 2) := by decide +kernel
theorem dX6_bars_168 : decode cX6_bars 168 = .ok (.aload_n 0, 1) := by decide +kernel
theorem dX6_bars_169 : decode cX6_bars 169 = .ok (.getfield 7, 3) := by decide +kernel
theorem dX6_bars_172 : decode cX6_bars 172 = .ok (.iload_n 1, 1) := by decide +kernel
theorem dX6_bars_173 : decode cX6_bars 173 = .ok (.iaload, 1) := by decide +kernel
theorem dX6_bars_174 : decode cX6_bars 174 = .ok (.iload 6, 2) := by decide +kernel
theorem dX6_bars_176 : decode cX6_bars 176 = .ok (.iadd, 1) := by decide +kernel
theorem dX6_bars_177 : decode cX6_bars 177 = .ok (.bipush 24, 2) := by decide +kernel
theorem dX6_bars_179 : decode cX6_bars 179 = .ok (.if_icmp .gt 18, 3) := by decide +kernel
theorem dX6_bars_182 : decode cX6_bars 182 = .ok (.iload 7, 2) := by decide +kernel
theorem dX6_bars_184 : decode cX6_bars 184 = .ok (.ifCond .eq 18, 3) := by decide +kernel
theorem dX6_bars_187 : decode cX6_bars 187 = .ok (.aload_n 0, 1) := by decide +kernel
theorem dX6_bars_188 : decode cX6_bars 188 = .ok (.getfield 27, 3) := by decide +kernel
theorem dX6_bars_191 : decode cX6_bars 191 = .ok (.iload_n 1, 1) := by decide +kernel
theorem dX6_bars_192 : decode cX6_bars 192 = .ok (.iaload, 1) := by decide +kernel
theorem dX6_bars_193 : decode cX6_bars 193 = .ok (.iconst 5, 1) := by decide +kernel
theorem dX6_bars_194 : decode cX6_bars 194 = .ok (.if_icmp .ne 8, 3) := by decide +kernel
theorem dX6_bars_197 : decode cX6_bars 197 = .ok (.bipush (-7), 2) := by decide +kernel
theorem dX6_bars_199 : decode cX6_bars 199 = .ok (.goto 4, 3) := by decide +kernel
theorem dX6_bars_202 : decode cX6_bars 202 = .ok (.iconst 0, 1) := by decide +kernel
theorem dX6_bars_203 : decode cX6_bars 203 = .ok (.ireturn, 1) := by decide +kernel
theorem dX6_selectedBy_0 : decode cX6_selectedBy 0 = .ok (.aload_n 0, 1) := by decide +kernel
theorem dX6_selectedBy_1 : decode cX6_selectedBy 1 = .ok (.getfield 7, 3) := by decide +kernel
theorem dX6_selectedBy_4 : decode cX6_selectedBy 4 = .ok (.iload_n 1, 1) := by decide +kernel
theorem dX6_selectedBy_5 : decode cX6_selectedBy 5 = .ok (.iaload, 1) := by decide +kernel
theorem dX6_selectedBy_6 : decode cX6_selectedBy 6 = .ok (.ifCond .ne 5, 3) := by decide +kernel
theorem dX6_selectedBy_9 : decode cX6_selectedBy 9 = .ok (.iconst (-1), 1) := by decide +kernel
theorem dX6_selectedBy_10 : decode cX6_selectedBy 10 = .ok (.ireturn, 1) := by decide +kernel
theorem dX6_selectedBy_11 : decode cX6_selectedBy 11 = .ok (.iload_n 2, 1) := by decide +kernel
theorem dX6_selectedBy_12 : decode cX6_selectedBy 12 = .ok (.iconst (-1), 1) := by decide +kernel
theorem dX6_selectedBy_13 : decode cX6_selectedBy 13 = .ok (.if_icmp .ne 15, 3) := by decide +kernel
theorem dX6_selectedBy_16 : decode cX6_selectedBy 16 = .ok (.aload_n 0, 1) := by decide +kernel
theorem dX6_selectedBy_17 : decode cX6_selectedBy 17 = .ok (.iload_n 1, 1) := by decide +kernel
theorem dX6_selectedBy_18 : decode cX6_selectedBy 18 = .ok (.aload_n 0, 1) := by decide +kernel
theorem dX6_selectedBy_19 : decode cX6_selectedBy 19 = .ok (.getfield 39, 3) := by decide +kernel
theorem dX6_selectedBy_22 : decode cX6_selectedBy 22 = .ok (.iload_n 1, 1) := by decide +kernel
theorem dX6_selectedBy_23 : decode cX6_selectedBy 23 = .ok (.iaload, 1) := by decide +kernel
theorem dX6_selectedBy_24 : decode cX6_selectedBy 24 = .ok (.invokevirtual 116, 3) := by decide +kernel
theorem dX6_selectedBy_27 : decode cX6_selectedBy 27 = .ok (.ireturn, 1) := by decide +kernel
theorem dX6_selectedBy_28 : decode cX6_selectedBy 28 = .ok (.aload_n 0, 1) := by decide +kernel
theorem dX6_selectedBy_29 : decode cX6_selectedBy 29 = .ok (.getfield 45, 3) := by decide +kernel
theorem dX6_selectedBy_32 : decode cX6_selectedBy 32 = .ok (.iconst 5, 1) := by decide +kernel
theorem dX6_selectedBy_33 : decode cX6_selectedBy 33 = .ok (.iload_n 1, 1) := by decide +kernel
theorem dX6_selectedBy_34 : decode cX6_selectedBy 34 = .ok (.imul, 1) := by decide +kernel
theorem dX6_selectedBy_35 : decode cX6_selectedBy 35 = .ok (.iload_n 2, 1) := by decide +kernel
theorem dX6_selectedBy_36 : decode cX6_selectedBy 36 = .ok (.iadd, 1) := by decide +kernel
theorem dX6_selectedBy_37 : decode cX6_selectedBy 37 = .ok (.iaload, 1) := by decide +kernel
theorem dX6_selectedBy_38 : decode cX6_selectedBy 38 = .ok (.istore_n 3, 1) := by decide +kernel
theorem dX6_selectedBy_39 : decode cX6_selectedBy 39 = .ok (.iload_n 3, 1) := by decide +kernel
theorem dX6_selectedBy_40 : decode cX6_selectedBy 40 = .ok (.iconst (-1), 1) := by decide +kernel
theorem dX6_selectedBy_41 : decode cX6_selectedBy 41 = .ok (.if_icmp .eq 13, 3) := by decide +kernel
theorem dX6_selectedBy_44 : decode cX6_selectedBy 44 = .ok (.aload_n 0, 1) := by decide +kernel
theorem dX6_selectedBy_45 : decode cX6_selectedBy 45 = .ok (.getfield 42, 3) := by decide +kernel
theorem dX6_selectedBy_48 : decode cX6_selectedBy 48 = .ok (.iload_n 2, 1) := by decide +kernel
theorem dX6_selectedBy_49 : decode cX6_selectedBy 49 = .ok (.iaload, 1) := by decide +kernel
theorem dX6_selectedBy_50 : decode cX6_selectedBy 50 = .ok (.iconst 1, 1) := by decide +kernel
theorem dX6_selectedBy_51 : decode cX6_selectedBy 51 = .ok (.if_icmp .ne 5, 3) := by decide +kernel
theorem dX6_selectedBy_54 : decode cX6_selectedBy 54 = .ok (.iload_n 3, 1) := by decide +kernel
theorem dX6_selectedBy_55 : decode cX6_selectedBy 55 = .ok (.ireturn, 1) := by decide +kernel
theorem dX6_selectedBy_56 : decode cX6_selectedBy 56 = .ok (.aload_n 0, 1) := by decide +kernel
theorem dX6_selectedBy_57 : decode cX6_selectedBy 57 = .ok (.iload_n 1, 1) := by decide +kernel
theorem dX6_selectedBy_58 : decode cX6_selectedBy 58 = .ok (.iload_n 3, 1) := by decide +kernel
theorem dX6_selectedBy_59 : decode cX6_selectedBy 59 = .ok (.invokevirtual 116, 3) := by decide +kernel
theorem dX6_selectedBy_62 : decode cX6_selectedBy 62 = .ok (.istore 4, 2) := by decide +kernel
theorem dX6_selectedBy_64 : decode cX6_selectedBy 64 = .ok (.iload 4, 2) := by decide +kernel
theorem dX6_selectedBy_66 : decode cX6_selectedBy 66 = .ok (.ifCond .ge 17, 3) := by decide +kernel
theorem dX6_selectedBy_69 : decode cX6_selectedBy 69 = .ok (.aload_n 0, 1) := by decide +kernel
theorem dX6_selectedBy_70 : decode cX6_selectedBy 70 = .ok (.getfield 30, 3) := by decide +kernel
theorem dX6_selectedBy_73 : decode cX6_selectedBy 73 = .ok (.bipush 6, 2) := by decide +kernel
theorem dX6_selectedBy_75 : decode cX6_selectedBy 75 = .ok (.iload_n 1, 1) := by decide +kernel
theorem dX6_selectedBy_76 : decode cX6_selectedBy 76 = .ok (.imul, 1) := by decide +kernel
theorem dX6_selectedBy_77 : decode cX6_selectedBy 77 = .ok (.iload_n 3, 1) := by decide +kernel
theorem dX6_selectedBy_78 : decode cX6_selectedBy 78 = .ok (.iadd, 1) := by decide +kernel
theorem dX6_selectedBy_79 : decode cX6_selectedBy 79 = .ok (.iaload, 1) := by decide +kernel
theorem dX6_selectedBy_80 : decode cX6_selectedBy 80 = .ok (.goto 5, 3) := by decide +kernel
theorem dX6_selectedBy_83 : decode cX6_selectedBy 83 = .ok (.iload 4, 2) := by decide +kernel
theorem dX6_selectedBy_85 : decode cX6_selectedBy 85 = .ok (.ireturn, 1) := by decide +kernel
theorem dX6_last_0 : decode cX6_last 0 = .ok (.iconst (-1), 1) := by decide +kernel
theorem dX6_last_1 : decode cX6_last 1 = .ok (.istore_n 3, 1) := by decide +kernel
theorem dX6_last_2 : decode cX6_last 2 = .ok (.iconst 0, 1) := by decide +kernel
theorem dX6_last_3 : decode cX6_last 3 = .ok (.istore 4, 2) := by decide +kernel
theorem dX6_last_5 : decode cX6_last 5 = .ok (.iload 4, 2) := by decide +kernel
theorem dX6_last_7 : decode cX6_last 7 = .ok (.aload_n 0, 1) := by decide +kernel
theorem dX6_last_8 : decode cX6_last 8 = .ok (.getfield 7, 3) := by decide +kernel
theorem dX6_last_11 : decode cX6_last 11 = .ok (.iload_n 1, 1) := by decide +kernel
theorem dX6_last_12 : decode cX6_last 12 = .ok (.iaload, 1) := by decide +kernel
theorem dX6_last_13 : decode cX6_last 13 = .ok (.if_icmp .ge 32, 3) := by decide +kernel
theorem dX6_last_16 : decode cX6_last 16 = .ok (.aload_n 0, 1) := by decide +kernel
theorem dX6_last_17 : decode cX6_last 17 = .ok (.getfield 21, 3) := by decide +kernel
theorem dX6_last_20 : decode cX6_last 20 = .ok (.bipush 24, 2) := by decide +kernel
theorem dX6_last_22 : decode cX6_last 22 = .ok (.iload_n 1, 1) := by decide +kernel
theorem dX6_last_23 : decode cX6_last 23 = .ok (.imul, 1) := by decide +kernel
theorem dX6_last_24 : decode cX6_last 24 = .ok (.iload 4, 2) := by decide +kernel
theorem dX6_last_26 : decode cX6_last 26 = .ok (.iadd, 1) := by decide +kernel
theorem dX6_last_27 : decode cX6_last 27 = .ok (.iaload, 1) := by decide +kernel
theorem dX6_last_28 : decode cX6_last 28 = .ok (.iload_n 2, 1) := by decide +kernel
theorem dX6_last_29 : decode cX6_last 29 = .ok (.if_icmp .ne 8, 3) := by decide +kernel
theorem dX6_last_32 : decode cX6_last 32 = .ok (.iload 4, 2) := by decide +kernel
theorem dX6_last_34 : decode cX6_last 34 = .ok (.goto 4, 3) := by decide +kernel
theorem dX6_last_37 : decode cX6_last 37 = .ok (.iload_n 3, 1) := by decide +kernel
theorem dX6_last_38 : decode cX6_last 38 = .ok (.istore_n 3, 1) := by decide +kernel
theorem dX6_last_39 : decode cX6_last 39 = .ok (.iinc 4 1, 3) := by decide +kernel
theorem dX6_last_42 : decode cX6_last 42 = .ok (.goto (-37), 3) := by decide +kernel
theorem dX6_last_45 : decode cX6_last 45 = .ok (.iload_n 3, 1) := by decide +kernel
theorem dX6_last_46 : decode cX6_last 46 = .ok (.ireturn, 1) := by decide +kernel
theorem dX6_noneOrDead_0 : decode cX6_noneOrDead 0 = .ok (.iload_n 2, 1) := by decide +kernel
theorem dX6_noneOrDead_1 : decode cX6_noneOrDead 1 = .ok (.ifCond .lt 17, 3) := by decide +kernel
theorem dX6_noneOrDead_4 : decode cX6_noneOrDead 4 = .ok (.aload_n 0, 1) := by decide +kernel
theorem dX6_noneOrDead_5 : decode cX6_noneOrDead 5 = .ok (.getfield 17, 3) := by decide +kernel
theorem dX6_noneOrDead_8 : decode cX6_noneOrDead 8 = .ok (.bipush 24, 2) := by decide +kernel
theorem dX6_noneOrDead_10 : decode cX6_noneOrDead 10 = .ok (.iload_n 1, 1) := by decide +kernel
theorem dX6_noneOrDead_11 : decode cX6_noneOrDead 11 = .ok (.imul, 1) := by decide +kernel
theorem dX6_noneOrDead_12 : decode cX6_noneOrDead 12 = .ok (.iload_n 2, 1) := by decide +kernel
theorem dX6_noneOrDead_13 : decode cX6_noneOrDead 13 = .ok (.iadd, 1) := by decide +kernel
theorem dX6_noneOrDead_14 : decode cX6_noneOrDead 14 = .ok (.baload, 1) := by decide +kernel
theorem dX6_noneOrDead_15 : decode cX6_noneOrDead 15 = .ok (.ifCond .eq 7, 3) := by decide +kernel
theorem dX6_noneOrDead_18 : decode cX6_noneOrDead 18 = .ok (.iconst 1, 1) := by decide +kernel
theorem dX6_noneOrDead_19 : decode cX6_noneOrDead 19 = .ok (.goto 4, 3) := by decide +kernel
theorem dX6_noneOrDead_22 : decode cX6_noneOrDead 22 = .ok (.iconst 0, 1) := by decide +kernel
theorem dX6_noneOrDead_23 : decode cX6_noneOrDead 23 = .ok (.ireturn, 1) := by decide +kernel
theorem dX6_modified_0 : decode cX6_modified 0 = .ok (.aload_n 0, 1) := by decide +kernel
theorem dX6_modified_1 : decode cX6_modified 1 = .ok (.getfield 51, 3) := by decide +kernel
theorem dX6_modified_4 : decode cX6_modified 4 = .ok (.iload_n 2, 1) := by decide +kernel
theorem dX6_modified_5 : decode cX6_modified 5 = .ok (.baload, 1) := by decide +kernel
theorem dX6_modified_6 : decode cX6_modified 6 = .ok (.ifCond .ne 33, 3) := by decide +kernel
theorem dX6_modified_9 : decode cX6_modified 9 = .ok (.aload_n 0, 1) := by decide +kernel
theorem dX6_modified_10 : decode cX6_modified 10 = .ok (.getfield 54, 3) := by decide +kernel
theorem dX6_modified_13 : decode cX6_modified 13 = .ok (.iload_n 2, 1) := by decide +kernel
theorem dX6_modified_14 : decode cX6_modified 14 = .ok (.laload, 1) := by decide +kernel
theorem dX6_modified_15 : decode cX6_modified 15 = .ok (.aload_n 0, 1) := by decide +kernel
theorem dX6_modified_16 : decode cX6_modified 16 = .ok (.getfield 13, 3) := by decide +kernel
theorem dX6_modified_19 : decode cX6_modified 19 = .ok (.bipush 24, 2) := by decide +kernel
theorem dX6_modified_21 : decode cX6_modified 21 = .ok (.iload_n 1, 1) := by decide +kernel
theorem dX6_modified_22 : decode cX6_modified 22 = .ok (.imul, 1) := by decide +kernel
theorem dX6_modified_23 : decode cX6_modified 23 = .ok (.aload_n 0, 1) := by decide +kernel
theorem dX6_modified_24 : decode cX6_modified 24 = .ok (.getfield 48, 3) := by decide +kernel
theorem dX6_modified_27 : decode cX6_modified 27 = .ok (.iload_n 2, 1) := by decide +kernel
theorem dX6_modified_28 : decode cX6_modified 28 = .ok (.iaload, 1) := by decide +kernel
theorem dX6_modified_29 : decode cX6_modified 29 = .ok (.iadd, 1) := by decide +kernel
theorem dX6_modified_30 : decode cX6_modified 30 = .ok (.laload, 1) := by decide +kernel
theorem dX6_modified_31 : decode cX6_modified 31 = .ok (.lcmp, 1) := by decide +kernel
theorem dX6_modified_32 : decode cX6_modified 32 = .ok (.ifCond .eq 7, 3) := by decide +kernel
theorem dX6_modified_35 : decode cX6_modified 35 = .ok (.iconst 1, 1) := by decide +kernel
theorem dX6_modified_36 : decode cX6_modified 36 = .ok (.goto 4, 3) := by decide +kernel
theorem dX6_modified_39 : decode cX6_modified 39 = .ok (.iconst 0, 1) := by decide +kernel
theorem dX6_modified_40 : decode cX6_modified 40 = .ok (.ireturn, 1) := by decide +kernel
theorem dX6_revise_0 : decode cX6_revise 0 = .ok (.aload_n 0, 1) := by decide +kernel
theorem dX6_revise_1 : decode cX6_revise 1 = .ok (.iload_n 1, 1) := by decide +kernel
theorem dX6_revise_2 : decode cX6_revise 2 = .ok (.iload_n 2, 1) := by decide +kernel
theorem dX6_revise_3 : decode cX6_revise 3 = .ok (.invokevirtual 116, 3) := by decide +kernel
theorem dX6_revise_6 : decode cX6_revise 6 = .ok (.istore 6, 2) := by decide +kernel
theorem dX6_revise_8 : decode cX6_revise 8 = .ok (.bipush 24, 2) := by decide +kernel
theorem dX6_revise_10 : decode cX6_revise 10 = .ok (.iload_n 1, 1) := by decide +kernel
theorem dX6_revise_11 : decode cX6_revise 11 = .ok (.imul, 1) := by decide +kernel
theorem dX6_revise_12 : decode cX6_revise 12 = .ok (.aload_n 0, 1) := by decide +kernel
theorem dX6_revise_13 : decode cX6_revise 13 = .ok (.getfield 7, 3) := by decide +kernel
theorem dX6_revise_16 : decode cX6_revise 16 = .ok (.iload_n 1, 1) := by decide +kernel
theorem dX6_revise_17 : decode cX6_revise 17 = .ok (.iaload, 1) := by decide +kernel
theorem dX6_revise_18 : decode cX6_revise 18 = .ok (.iadd, 1) := by decide +kernel
theorem dX6_revise_19 : decode cX6_revise 19 = .ok (.istore 7, 2) := by decide +kernel
theorem dX6_revise_21 : decode cX6_revise 21 = .ok (.aload_n 0, 1) := by decide +kernel
theorem dX6_revise_22 : decode cX6_revise 22 = .ok (.getfield 13, 3) := by decide +kernel
theorem dX6_revise_25 : decode cX6_revise 25 = .ok (.iload 7, 2) := by decide +kernel
theorem dX6_revise_27 : decode cX6_revise 27 = .ok (.lload_n 3, 1) := by decide +kernel
theorem dX6_revise_28 : decode cX6_revise 28 = .ok (.lastore, 1) := by decide +kernel
theorem dX6_revise_29 : decode cX6_revise 29 = .ok (.aload_n 0, 1) := by decide +kernel
theorem dX6_revise_30 : decode cX6_revise 30 = .ok (.getfield 17, 3) := by decide +kernel
theorem dX6_revise_33 : decode cX6_revise 33 = .ok (.iload 7, 2) := by decide +kernel
theorem dX6_revise_35 : decode cX6_revise 35 = .ok (.iload 5, 2) := by decide +kernel
theorem dX6_revise_37 : decode cX6_revise 37 = .ok (.bastore, 1) := by decide +kernel
theorem dX6_revise_38 : decode cX6_revise 38 = .ok (.aload_n 0, 1) := by decide +kernel
theorem dX6_revise_39 : decode cX6_revise 39 = .ok (.getfield 21, 3) := by decide +kernel
theorem dX6_revise_42 : decode cX6_revise 42 = .ok (.iload 7, 2) := by decide +kernel
theorem dX6_revise_44 : decode cX6_revise 44 = .ok (.iload_n 2, 1) := by decide +kernel
theorem dX6_revise_45 : decode cX6_revise 45 = .ok (.iastore, 1) := by decide +kernel
theorem dX6_revise_46 : decode cX6_revise 46 = .ok (.aload_n 0, 1) := by decide +kernel
theorem dX6_revise_47 : decode cX6_revise 47 = .ok (.getfield 24, 3) := by decide +kernel
theorem dX6_revise_50 : decode cX6_revise 50 = .ok (.iload 7, 2) := by decide +kernel
theorem dX6_revise_52 : decode cX6_revise 52 = .ok (.iload 6, 2) := by decide +kernel
theorem dX6_revise_54 : decode cX6_revise 54 = .ok (.ifCond .ge 7, 3) := by decide +kernel
theorem dX6_revise_57 : decode cX6_revise 57 = .ok (.iconst 1, 1) := by decide +kernel
theorem dX6_revise_58 : decode cX6_revise 58 = .ok (.goto 17, 3) := by decide +kernel
theorem dX6_revise_61 : decode cX6_revise 61 = .ok (.aload_n 0, 1) := by decide +kernel
theorem dX6_revise_62 : decode cX6_revise 62 = .ok (.getfield 24, 3) := by decide +kernel
theorem dX6_revise_65 : decode cX6_revise 65 = .ok (.bipush 24, 2) := by decide +kernel
theorem dX6_revise_67 : decode cX6_revise 67 = .ok (.iload_n 1, 1) := by decide +kernel
theorem dX6_revise_68 : decode cX6_revise 68 = .ok (.imul, 1) := by decide +kernel
theorem dX6_revise_69 : decode cX6_revise 69 = .ok (.iload 6, 2) := by decide +kernel
theorem dX6_revise_71 : decode cX6_revise 71 = .ok (.iadd, 1) := by decide +kernel
theorem dX6_revise_72 : decode cX6_revise 72 = .ok (.iaload, 1) := by decide +kernel
theorem dX6_revise_73 : decode cX6_revise 73 = .ok (.iconst 1, 1) := by decide +kernel
theorem dX6_revise_74 : decode cX6_revise 74 = .ok (.iadd, 1) := by decide +kernel
theorem dX6_revise_75 : decode cX6_revise 75 = .ok (.iastore, 1) := by decide +kernel
theorem dX6_revise_76 : decode cX6_revise 76 = .ok (.aload_n 0, 1) := by decide +kernel
theorem dX6_revise_77 : decode cX6_revise 77 = .ok (.getfield 7, 3) := by decide +kernel
theorem dX6_revise_80 : decode cX6_revise 80 = .ok (.iload_n 1, 1) := by decide +kernel
theorem dX6_revise_81 : decode cX6_revise 81 = .ok (.dup2, 1) := by decide +kernel
theorem dX6_revise_82 : decode cX6_revise 82 = .ok (.iaload, 1) := by decide +kernel
theorem dX6_revise_83 : decode cX6_revise 83 = .ok (.iconst 1, 1) := by decide +kernel
theorem dX6_revise_84 : decode cX6_revise 84 = .ok (.iadd, 1) := by decide +kernel
theorem dX6_revise_85 : decode cX6_revise 85 = .ok (.iastore, 1) := by decide +kernel
theorem dX6_revise_86 : decode cX6_revise 86 = .ok (.aload_n 0, 1) := by decide +kernel
theorem dX6_revise_87 : decode cX6_revise 87 = .ok (.getfield 7, 3) := by decide +kernel
theorem dX6_revise_90 : decode cX6_revise 90 = .ok (.iload_n 1, 1) := by decide +kernel
theorem dX6_revise_91 : decode cX6_revise 91 = .ok (.iaload, 1) := by decide +kernel
theorem dX6_revise_92 : decode cX6_revise 92 = .ok (.iconst 1, 1) := by decide +kernel
theorem dX6_revise_93 : decode cX6_revise 93 = .ok (.isub, 1) := by decide +kernel
theorem dX6_revise_94 : decode cX6_revise 94 = .ok (.ireturn, 1) := by decide +kernel
theorem dX6_freeMagic_0 : decode cX6_freeMagic 0 = .ok (.iconst 2, 1) := by decide +kernel
theorem dX6_freeMagic_1 : decode cX6_freeMagic 1 = .ok (.istore_n 3, 1) := by decide +kernel
theorem dX6_freeMagic_2 : decode cX6_freeMagic 2 = .ok (.iconst 0, 1) := by decide +kernel
theorem dX6_freeMagic_3 : decode cX6_freeMagic 3 = .ok (.istore 4, 2) := by decide +kernel
theorem dX6_freeMagic_5 : decode cX6_freeMagic 5 = .ok (.iload 4, 2) := by decide +kernel
theorem dX6_freeMagic_7 : decode cX6_freeMagic 7 = .ok (.bipush 6, 2) := by decide +kernel
theorem dX6_freeMagic_9 : decode cX6_freeMagic 9 = .ok (.if_icmp .ge 69, 3) := by decide +kernel
theorem dX6_freeMagic_12 : decode cX6_freeMagic 12 = .ok (.iconst 1, 1) := by decide +kernel
theorem dX6_freeMagic_13 : decode cX6_freeMagic 13 = .ok (.istore 5, 2) := by decide +kernel
theorem dX6_freeMagic_15 : decode cX6_freeMagic 15 = .ok (.iload 5, 2) := by decide +kernel
theorem dX6_freeMagic_17 : decode cX6_freeMagic 17 = .ok (.aload_n 0, 1) := by decide +kernel
theorem dX6_freeMagic_18 : decode cX6_freeMagic 18 = .ok (.getfield 27, 3) := by decide +kernel
theorem dX6_freeMagic_21 : decode cX6_freeMagic 21 = .ok (.iload_n 1, 1) := by decide +kernel
theorem dX6_freeMagic_22 : decode cX6_freeMagic 22 = .ok (.iaload, 1) := by decide +kernel
theorem dX6_freeMagic_23 : decode cX6_freeMagic 23 = .ok (.if_icmp .gt 49, 3) := by decide +kernel
theorem dX6_freeMagic_26 : decode cX6_freeMagic 26 = .ok (.aload_n 0, 1) := by decide +kernel
theorem dX6_freeMagic_27 : decode cX6_freeMagic 27 = .ok (.getfield 30, 3) := by decide +kernel
theorem dX6_freeMagic_30 : decode cX6_freeMagic 30 = .ok (.bipush 6, 2) := by decide +kernel
theorem dX6_freeMagic_32 : decode cX6_freeMagic 32 = .ok (.iload_n 1, 1) := by decide +kernel
theorem dX6_freeMagic_33 : decode cX6_freeMagic 33 = .ok (.imul, 1) := by decide +kernel
theorem dX6_freeMagic_34 : decode cX6_freeMagic 34 = .ok (.iload 5, 2) := by decide +kernel
theorem dX6_freeMagic_36 : decode cX6_freeMagic 36 = .ok (.iadd, 1) := by decide +kernel
theorem dX6_freeMagic_37 : decode cX6_freeMagic 37 = .ok (.iaload, 1) := by decide +kernel
theorem dX6_freeMagic_38 : decode cX6_freeMagic 38 = .ok (.iload_n 2, 1) := by decide +kernel
theorem dX6_freeMagic_39 : decode cX6_freeMagic 39 = .ok (.if_icmp .ne 25, 3) := by decide +kernel
theorem dX6_freeMagic_42 : decode cX6_freeMagic 42 = .ok (.aload_n 0, 1) := by decide +kernel
theorem dX6_freeMagic_43 : decode cX6_freeMagic 43 = .ok (.getfield 33, 3) := by decide +kernel
theorem dX6_freeMagic_46 : decode cX6_freeMagic 46 = .ok (.bipush 6, 2) := by decide +kernel
theorem dX6_freeMagic_48 : decode cX6_freeMagic 48 = .ok (.iload_n 1, 1) := by decide +kernel
theorem dX6_freeMagic_49 : decode cX6_freeMagic 49 = .ok (.imul, 1) := by decide +kernel
theorem dX6_freeMagic_50 : decode cX6_freeMagic 50 = .ok (.iload 5, 2) := by decide +kernel
theorem dX6_freeMagic_52 : decode cX6_freeMagic 52 = .ok (.iadd, 1) := by decide +kernel
theorem dX6_freeMagic_53 : decode cX6_freeMagic 53 = .ok (.iaload, 1) := by decide +kernel
theorem dX6_freeMagic_54 : decode cX6_freeMagic 54 = .ok (.iload_n 3, 1) := by decide +kernel
theorem dX6_freeMagic_55 : decode cX6_freeMagic 55 = .ok (.if_icmp .ne 9, 3) := by decide +kernel
theorem dX6_freeMagic_58 : decode cX6_freeMagic 58 = .ok (.iload_n 3, 1) := by decide +kernel
theorem dX6_freeMagic_59 : decode cX6_freeMagic 59 = .ok (.iconst 2, 1) := by decide +kernel
theorem dX6_freeMagic_60 : decode cX6_freeMagic 60 = .ok (.iadd, 1) := by decide +kernel
theorem dX6_freeMagic_61 : decode cX6_freeMagic 61 = .ok (.goto 4, 3) := by decide +kernel
theorem dX6_freeMagic_64 : decode cX6_freeMagic 64 = .ok (.iload_n 3, 1) := by decide +kernel
theorem dX6_freeMagic_65 : decode cX6_freeMagic 65 = .ok (.istore_n 3, 1) := by decide +kernel
theorem dX6_freeMagic_66 : decode cX6_freeMagic 66 = .ok (.iinc 5 1, 3) := by decide +kernel
theorem dX6_freeMagic_69 : decode cX6_freeMagic 69 = .ok (.goto (-54), 3) := by decide +kernel
theorem dX6_freeMagic_72 : decode cX6_freeMagic 72 = .ok (.iinc 4 1, 3) := by decide +kernel
theorem dX6_freeMagic_75 : decode cX6_freeMagic 75 = .ok (.goto (-70), 3) := by decide +kernel
theorem dX6_freeMagic_78 : decode cX6_freeMagic 78 = .ok (.iload_n 3, 1) := by decide +kernel
theorem dX6_freeMagic_79 : decode cX6_freeMagic 79 = .ok (.ireturn, 1) := by decide +kernel
theorem dX6_branchAt_0 : decode cX6_branchAt 0 = .ok (.aload_n 0, 1) := by decide +kernel
theorem dX6_branchAt_1 : decode cX6_branchAt 1 = .ok (.getfield 27, 3) := by decide +kernel
theorem dX6_branchAt_4 : decode cX6_branchAt 4 = .ok (.iload_n 1, 1) := by decide +kernel
theorem dX6_branchAt_5 : decode cX6_branchAt 5 = .ok (.iaload, 1) := by decide +kernel
theorem dX6_branchAt_6 : decode cX6_branchAt 6 = .ok (.iconst 1, 1) := by decide +kernel
theorem dX6_branchAt_7 : decode cX6_branchAt 7 = .ok (.iadd, 1) := by decide +kernel
theorem dX6_branchAt_8 : decode cX6_branchAt 8 = .ok (.istore 4, 2) := by decide +kernel
theorem dX6_branchAt_10 : decode cX6_branchAt 10 = .ok (.aload_n 0, 1) := by decide +kernel
theorem dX6_branchAt_11 : decode cX6_branchAt 11 = .ok (.getfield 30, 3) := by decide +kernel
theorem dX6_branchAt_14 : decode cX6_branchAt 14 = .ok (.bipush 6, 2) := by decide +kernel
theorem dX6_branchAt_16 : decode cX6_branchAt 16 = .ok (.iload_n 1, 1) := by decide +kernel
theorem dX6_branchAt_17 : decode cX6_branchAt 17 = .ok (.imul, 1) := by decide +kernel
theorem dX6_branchAt_18 : decode cX6_branchAt 18 = .ok (.iload 4, 2) := by decide +kernel
theorem dX6_branchAt_20 : decode cX6_branchAt 20 = .ok (.iadd, 1) := by decide +kernel
theorem dX6_branchAt_21 : decode cX6_branchAt 21 = .ok (.iload_n 2, 1) := by decide +kernel
theorem dX6_branchAt_22 : decode cX6_branchAt 22 = .ok (.iastore, 1) := by decide +kernel
theorem dX6_branchAt_23 : decode cX6_branchAt 23 = .ok (.aload_n 0, 1) := by decide +kernel
theorem dX6_branchAt_24 : decode cX6_branchAt 24 = .ok (.getfield 33, 3) := by decide +kernel
theorem dX6_branchAt_27 : decode cX6_branchAt 27 = .ok (.bipush 6, 2) := by decide +kernel
theorem dX6_branchAt_29 : decode cX6_branchAt 29 = .ok (.iload_n 1, 1) := by decide +kernel
theorem dX6_branchAt_30 : decode cX6_branchAt 30 = .ok (.imul, 1) := by decide +kernel
theorem dX6_branchAt_31 : decode cX6_branchAt 31 = .ok (.iload 4, 2) := by decide +kernel
theorem dX6_branchAt_33 : decode cX6_branchAt 33 = .ok (.iadd, 1) := by decide +kernel
theorem dX6_branchAt_34 : decode cX6_branchAt 34 = .ok (.iload_n 3, 1) := by decide +kernel
theorem dX6_branchAt_35 : decode cX6_branchAt 35 = .ok (.iastore, 1) := by decide +kernel
theorem dX6_branchAt_36 : decode cX6_branchAt 36 = .ok (.aload_n 0, 1) := by decide +kernel
theorem dX6_branchAt_37 : decode cX6_branchAt 37 = .ok (.getfield 27, 3) := by decide +kernel
theorem dX6_branchAt_40 : decode cX6_branchAt 40 = .ok (.iload_n 1, 1) := by decide +kernel
theorem dX6_branchAt_41 : decode cX6_branchAt 41 = .ok (.dup2, 1) := by decide +kernel
theorem dX6_branchAt_42 : decode cX6_branchAt 42 = .ok (.iaload, 1) := by decide +kernel
theorem dX6_branchAt_43 : decode cX6_branchAt 43 = .ok (.iconst 1, 1) := by decide +kernel
theorem dX6_branchAt_44 : decode cX6_branchAt 44 = .ok (.iadd, 1) := by decide +kernel
theorem dX6_branchAt_45 : decode cX6_branchAt 45 = .ok (.iastore, 1) := by decide +kernel
theorem dX6_branchAt_46 : decode cX6_branchAt 46 = .ok (.iload 4, 2) := by decide +kernel
theorem dX6_branchAt_48 : decode cX6_branchAt 48 = .ok (.ireturn, 1) := by decide +kernel
theorem dX6_update_0 : decode cX6_update 0 = .ok (.iload_n 1, 1) := by decide +kernel
theorem dX6_update_1 : decode cX6_update 1 = .ok (.iload_n 2, 1) := by decide +kernel
theorem dX6_update_2 : decode cX6_update 2 = .ok (.invokestatic 120, 3) := by decide +kernel
theorem dX6_update_5 : decode cX6_update 5 = .ok (.ifCond .ne 30, 3) := by decide +kernel
theorem dX6_update_8 : decode cX6_update 8 = .ok (.iload_n 3, 1) := by decide +kernel
theorem dX6_update_9 : decode cX6_update 9 = .ok (.iconst (-1), 1) := by decide +kernel
theorem dX6_update_10 : decode cX6_update 10 = .ok (.if_icmp .lt 25, 3) := by decide +kernel
theorem dX6_update_13 : decode cX6_update 13 = .ok (.iload_n 3, 1) := by decide +kernel
theorem dX6_update_14 : decode cX6_update 14 = .ok (.iconst 5, 1) := by decide +kernel
theorem dX6_update_15 : decode cX6_update 15 = .ok (.if_icmp .gt 20, 3) := by decide +kernel
theorem dX6_update_18 : decode cX6_update 18 = .ok (.iload_n 3, 1) := by decide +kernel
theorem dX6_update_19 : decode cX6_update 19 = .ok (.iconst 5, 1) := by decide +kernel
theorem dX6_update_20 : decode cX6_update 20 = .ok (.invokestatic 72, 3) := by decide +kernel
theorem dX6_update_23 : decode cX6_update 23 = .ok (.ifCond .eq 14, 3) := by decide +kernel
theorem dX6_update_26 : decode cX6_update 26 = .ok (.aload_n 0, 1) := by decide +kernel
theorem dX6_update_27 : decode cX6_update 27 = .ok (.getfield 42, 3) := by decide +kernel
theorem dX6_update_30 : decode cX6_update 30 = .ok (.iload_n 3, 1) := by decide +kernel
theorem dX6_update_31 : decode cX6_update 31 = .ok (.iaload, 1) := by decide +kernel
theorem dX6_update_32 : decode cX6_update 32 = .ok (.ifCond .ne 5, 3) := by decide +kernel
theorem dX6_update_35 : decode cX6_update 35 = .ok (.iconst (-1), 1) := by decide +kernel
theorem dX6_update_36 : decode cX6_update 36 = .ok (.ireturn, 1) := by decide +kernel
theorem dX6_update_37 : decode cX6_update 37 = .ok (.iconst 4, 1) := by decide +kernel
theorem dX6_update_38 : decode cX6_update 38 = .ok (.iload_n 1, 1) := by decide +kernel
theorem dX6_update_39 : decode cX6_update 39 = .ok (.imul, 1) := by decide +kernel
theorem dX6_update_40 : decode cX6_update 40 = .ok (.iload_n 2, 1) := by decide +kernel
theorem dX6_update_41 : decode cX6_update 41 = .ok (.iadd, 1) := by decide +kernel
theorem dX6_update_42 : decode cX6_update 42 = .ok (.istore 4, 2) := by decide +kernel
theorem dX6_update_44 : decode cX6_update 44 = .ok (.iload_n 3, 1) := by decide +kernel
theorem dX6_update_45 : decode cX6_update 45 = .ok (.iconst (-1), 1) := by decide +kernel
theorem dX6_update_46 : decode cX6_update 46 = .ok (.if_icmp .ne 13, 3) := by decide +kernel
theorem dX6_update_49 : decode cX6_update 49 = .ok (.aload_n 0, 1) := by decide +kernel
theorem dX6_update_50 : decode cX6_update 50 = .ok (.getfield 57, 3) := by decide +kernel
theorem dX6_update_53 : decode cX6_update 53 = .ok (.iload 4, 2) := by decide +kernel
theorem dX6_update_55 : decode cX6_update 55 = .ok (.iaload, 1) := by decide +kernel
theorem dX6_update_56 : decode cX6_update 56 = .ok (.goto 13, 3) := by decide +kernel
theorem dX6_update_59 : decode cX6_update 59 = .ok (.iload_n 3, 1) := by decide +kernel
theorem dX6_update_60 : decode cX6_update 60 = .ok (.iconst 5, 1) := by decide +kernel
theorem dX6_update_61 : decode cX6_update 61 = .ok (.if_icmp .ne 7, 3) := by decide +kernel
theorem dX6_update_64 : decode cX6_update 64 = .ok (.iconst (-1), 1) := by decide +kernel
theorem dX6_update_65 : decode cX6_update 65 = .ok (.goto 4, 3) := by decide +kernel
theorem dX6_update_68 : decode cX6_update 68 = .ok (.iload_n 3, 1) := by decide +kernel
theorem dX6_update_69 : decode cX6_update 69 = .ok (.istore 5, 2) := by decide +kernel
theorem dX6_update_71 : decode cX6_update 71 = .ok (.aload_n 0, 1) := by decide +kernel
theorem dX6_update_72 : decode cX6_update 72 = .ok (.iload_n 2, 1) := by decide +kernel
theorem dX6_update_73 : decode cX6_update 73 = .ok (.iload 4, 2) := by decide +kernel
theorem dX6_update_75 : decode cX6_update 75 = .ok (.aload_n 0, 1) := by decide +kernel
theorem dX6_update_76 : decode cX6_update 76 = .ok (.iload_n 2, 1) := by decide +kernel
theorem dX6_update_77 : decode cX6_update 77 = .ok (.iload 5, 2) := by decide +kernel
theorem dX6_update_79 : decode cX6_update 79 = .ok (.invokevirtual 134, 3) := by decide +kernel
theorem dX6_update_82 : decode cX6_update 82 = .ok (.invokevirtual 169, 3) := by decide +kernel
theorem dX6_update_85 : decode cX6_update 85 = .ok (.istore 6, 2) := by decide +kernel
theorem dX6_update_87 : decode cX6_update 87 = .ok (.aload_n 0, 1) := by decide +kernel
theorem dX6_update_88 : decode cX6_update 88 = .ok (.getfield 57, 3) := by decide +kernel
theorem dX6_update_91 : decode cX6_update 91 = .ok (.iload 4, 2) := by decide +kernel
theorem dX6_update_93 : decode cX6_update 93 = .ok (.iload 6, 2) := by decide +kernel
theorem dX6_update_95 : decode cX6_update 95 = .ok (.iconst 3, 1) := by decide +kernel
theorem dX6_update_96 : decode cX6_update 96 = .ok (.if_icmp .eq 10, 3) := by decide +kernel
theorem dX6_update_99 : decode cX6_update 99 = .ok (.iload 6, 2) := by decide +kernel
theorem dX6_update_101 : decode cX6_update 101 = .ok (.bipush (-7), 2) := by decide +kernel
theorem dX6_update_103 : decode cX6_update 103 = .ok (.if_icmp .ne 13, 3) := by decide +kernel
theorem dX6_update_106 : decode cX6_update 106 = .ok (.aload_n 0, 1) := by decide +kernel
theorem dX6_update_107 : decode cX6_update 107 = .ok (.getfield 57, 3) := by decide +kernel
theorem dX6_update_110 : decode cX6_update 110 = .ok (.iload 4, 2) := by decide +kernel
theorem dX6_update_112 : decode cX6_update 112 = .ok (.iaload, 1) := by decide +kernel
theorem dX6_update_113 : decode cX6_update 113 = .ok (.goto 5, 3) := by decide +kernel
theorem dX6_update_116 : decode cX6_update 116 = .ok (.iload 5, 2) := by decide +kernel
theorem dX6_update_118 : decode cX6_update 118 = .ok (.iastore, 1) := by decide +kernel
theorem dX6_update_119 : decode cX6_update 119 = .ok (.iload 6, 2) := by decide +kernel
theorem dX6_update_121 : decode cX6_update 121 = .ok (.ireturn, 1) := by decide +kernel
theorem dX6_updated_0 : decode cX6_updated 0 = .ok (.aload_n 0, 1) := by decide +kernel
theorem dX6_updated_1 : decode cX6_updated 1 = .ok (.getfield 48, 3) := by decide +kernel
theorem dX6_updated_4 : decode cX6_updated 4 = .ok (.iload_n 2, 1) := by decide +kernel
theorem dX6_updated_5 : decode cX6_updated 5 = .ok (.iaload, 1) := by decide +kernel
theorem dX6_updated_6 : decode cX6_updated 6 = .ok (.istore 4, 2) := by decide +kernel
theorem dX6_updated_8 : decode cX6_updated 8 = .ok (.aload_n 0, 1) := by decide +kernel
theorem dX6_updated_9 : decode cX6_updated 9 = .ok (.iload_n 1, 1) := by decide +kernel
theorem dX6_updated_10 : decode cX6_updated 10 = .ok (.iload_n 3, 1) := by decide +kernel
theorem dX6_updated_11 : decode cX6_updated 11 = .ok (.invokevirtual 137, 3) := by decide +kernel
theorem dX6_updated_14 : decode cX6_updated 14 = .ok (.istore 5, 2) := by decide +kernel
theorem dX6_updated_16 : decode cX6_updated 16 = .ok (.iload 4, 2) := by decide +kernel
theorem dX6_updated_18 : decode cX6_updated 18 = .ok (.iconst (-1), 1) := by decide +kernel
theorem dX6_updated_19 : decode cX6_updated 19 = .ok (.if_icmp .ne 26, 3) := by decide +kernel
theorem dX6_updated_22 : decode cX6_updated 22 = .ok (.iload 5, 2) := by decide +kernel
theorem dX6_updated_24 : decode cX6_updated 24 = .ok (.ifCond .ne 10, 3) := by decide +kernel
theorem dX6_updated_27 : decode cX6_updated 27 = .ok (.aload_n 0, 1) := by decide +kernel
theorem dX6_updated_28 : decode cX6_updated 28 = .ok (.iload_n 1, 1) := by decide +kernel
theorem dX6_updated_29 : decode cX6_updated 29 = .ok (.iload_n 2, 1) := by decide +kernel
theorem dX6_updated_30 : decode cX6_updated 30 = .ok (.iload_n 3, 1) := by decide +kernel
theorem dX6_updated_31 : decode cX6_updated 31 = .ok (.invokevirtual 157, 3) := by decide +kernel
theorem dX6_updated_34 : decode cX6_updated 34 = .ok (.iload 5, 2) := by decide +kernel
theorem dX6_updated_36 : decode cX6_updated 36 = .ok (.ifCond .eq 7, 3) := by decide +kernel
theorem dX6_updated_39 : decode cX6_updated 39 = .ok (.iconst 0, 1) := by decide +kernel
theorem dX6_updated_40 : decode cX6_updated 40 = .ok (.goto 4, 3) := by decide +kernel
theorem dX6_updated_43 : decode cX6_updated 43 = .ok (.iconst 2, 1) := by decide +kernel
theorem dX6_updated_44 : decode cX6_updated 44 = .ok (.ireturn, 1) := by decide +kernel
theorem dX6_updated_45 : decode cX6_updated 45 = .ok (.iload 4, 2) := by decide +kernel
theorem dX6_updated_47 : decode cX6_updated 47 = .ok (.bipush (-2), 2) := by decide +kernel
theorem dX6_updated_49 : decode cX6_updated 49 = .ok (.if_icmp .ne 14, 3) := by decide +kernel
theorem dX6_updated_52 : decode cX6_updated 52 = .ok (.iload 5, 2) := by decide +kernel
theorem dX6_updated_54 : decode cX6_updated 54 = .ok (.ifCond .eq 7, 3) := by decide +kernel
theorem dX6_updated_57 : decode cX6_updated 57 = .ok (.iconst 0, 1) := by decide +kernel
theorem dX6_updated_58 : decode cX6_updated 58 = .ok (.goto 4, 3) := by decide +kernel
theorem dX6_updated_61 : decode cX6_updated 61 = .ok (.iconst 3, 1) := by decide +kernel
theorem dX6_updated_62 : decode cX6_updated 62 = .ok (.ireturn, 1) := by decide +kernel
theorem dX6_updated_63 : decode cX6_updated 63 = .ok (.iload 5, 2) := by decide +kernel
theorem dX6_updated_65 : decode cX6_updated 65 = .ok (.ifCond .eq 14, 3) := by decide +kernel
theorem dX6_updated_68 : decode cX6_updated 68 = .ok (.aload_n 0, 1) := by decide +kernel
theorem dX6_updated_69 : decode cX6_updated 69 = .ok (.iload_n 1, 1) := by decide +kernel
theorem dX6_updated_70 : decode cX6_updated 70 = .ok (.iload_n 2, 1) := by decide +kernel
theorem dX6_updated_71 : decode cX6_updated 71 = .ok (.invokevirtual 140, 3) := by decide +kernel
theorem dX6_updated_74 : decode cX6_updated 74 = .ok (.ifCond .eq 5, 3) := by decide +kernel
theorem dX6_updated_77 : decode cX6_updated 77 = .ok (.iconst 3, 1) := by decide +kernel
theorem dX6_updated_78 : decode cX6_updated 78 = .ok (.ireturn, 1) := by decide +kernel
theorem dX6_updated_79 : decode cX6_updated 79 = .ok (.iload 5, 2) := by decide +kernel
theorem dX6_updated_81 : decode cX6_updated 81 = .ok (.ifCond .eq 19, 3) := by decide +kernel
theorem dX6_updated_84 : decode cX6_updated 84 = .ok (.aload_n 0, 1) := by decide +kernel
theorem dX6_updated_85 : decode cX6_updated 85 = .ok (.getfield 48, 3) := by decide +kernel
theorem dX6_updated_88 : decode cX6_updated 88 = .ok (.iload_n 2, 1) := by decide +kernel
theorem dX6_updated_89 : decode cX6_updated 89 = .ok (.iconst (-1), 1) := by decide +kernel
theorem dX6_updated_90 : decode cX6_updated 90 = .ok (.iastore, 1) := by decide +kernel
theorem dX6_updated_91 : decode cX6_updated 91 = .ok (.aload_n 0, 1) := by decide +kernel
theorem dX6_updated_92 : decode cX6_updated 92 = .ok (.getfield 51, 3) := by decide +kernel
theorem dX6_updated_95 : decode cX6_updated 95 = .ok (.iload_n 2, 1) := by decide +kernel
theorem dX6_updated_96 : decode cX6_updated 96 = .ok (.iconst 0, 1) := by decide +kernel
theorem dX6_updated_97 : decode cX6_updated 97 = .ok (.bastore, 1) := by decide +kernel
theorem dX6_updated_98 : decode cX6_updated 98 = .ok (.iconst 1, 1) := by decide +kernel
theorem dX6_updated_99 : decode cX6_updated 99 = .ok (.ireturn, 1) := by decide +kernel
theorem dX6_updated_100 : decode cX6_updated 100 = .ok (.aload_n 0, 1) := by decide +kernel
theorem dX6_updated_101 : decode cX6_updated 101 = .ok (.getfield 51, 3) := by decide +kernel
theorem dX6_updated_104 : decode cX6_updated 104 = .ok (.iload_n 2, 1) := by decide +kernel
theorem dX6_updated_105 : decode cX6_updated 105 = .ok (.baload, 1) := by decide +kernel
theorem dX6_updated_106 : decode cX6_updated 106 = .ok (.ifCond .ne 9, 3) := by decide +kernel
theorem dX6_updated_109 : decode cX6_updated 109 = .ok (.iload_n 3, 1) := by decide +kernel
theorem dX6_updated_110 : decode cX6_updated 110 = .ok (.iload 4, 2) := by decide +kernel
theorem dX6_updated_112 : decode cX6_updated 112 = .ok (.if_icmp .ne 5, 3) := by decide +kernel
theorem dX6_updated_115 : decode cX6_updated 115 = .ok (.iconst 0, 1) := by decide +kernel
theorem dX6_updated_116 : decode cX6_updated 116 = .ok (.ireturn, 1) := by decide +kernel
theorem dX6_updated_117 : decode cX6_updated 117 = .ok (.aload_n 0, 1) := by decide +kernel
theorem dX6_updated_118 : decode cX6_updated 118 = .ok (.iload_n 1, 1) := by decide +kernel
theorem dX6_updated_119 : decode cX6_updated 119 = .ok (.iload_n 2, 1) := by decide +kernel
theorem dX6_updated_120 : decode cX6_updated 120 = .ok (.invokevirtual 140, 3) := by decide +kernel
theorem dX6_updated_123 : decode cX6_updated 123 = .ok (.ifCond .ne 12, 3) := by decide +kernel
theorem dX6_updated_126 : decode cX6_updated 126 = .ok (.aload_n 0, 1) := by decide +kernel
theorem dX6_updated_127 : decode cX6_updated 127 = .ok (.iload_n 1, 1) := by decide +kernel
theorem dX6_updated_128 : decode cX6_updated 128 = .ok (.iload_n 2, 1) := by decide +kernel
theorem dX6_updated_129 : decode cX6_updated 129 = .ok (.iload_n 3, 1) := by decide +kernel
theorem dX6_updated_130 : decode cX6_updated 130 = .ok (.invokevirtual 157, 3) := by decide +kernel
theorem dX6_updated_133 : decode cX6_updated 133 = .ok (.iconst 2, 1) := by decide +kernel
theorem dX6_updated_134 : decode cX6_updated 134 = .ok (.ireturn, 1) := by decide +kernel
theorem dX6_updated_135 : decode cX6_updated 135 = .ok (.aload_n 0, 1) := by decide +kernel
theorem dX6_updated_136 : decode cX6_updated 136 = .ok (.aload_n 0, 1) := by decide +kernel
theorem dX6_updated_137 : decode cX6_updated 137 = .ok (.getfield 13, 3) := by decide +kernel
theorem dX6_updated_140 : decode cX6_updated 140 = .ok (.bipush 24, 2) := by decide +kernel
theorem dX6_updated_142 : decode cX6_updated 142 = .ok (.iload_n 1, 1) := by decide +kernel
theorem dX6_updated_143 : decode cX6_updated 143 = .ok (.imul, 1) := by decide +kernel
theorem dX6_updated_144 : decode cX6_updated 144 = .ok (.iload 4, 2) := by decide +kernel
theorem dX6_updated_146 : decode cX6_updated 146 = .ok (.iadd, 1) := by decide +kernel
theorem dX6_updated_147 : decode cX6_updated 147 = .ok (.laload, 1) := by decide +kernel
theorem dX6_updated_148 : decode cX6_updated 148 = .ok (.aload_n 0, 1) := by decide +kernel
theorem dX6_updated_149 : decode cX6_updated 149 = .ok (.getfield 54, 3) := by decide +kernel
theorem dX6_updated_152 : decode cX6_updated 152 = .ok (.iload_n 2, 1) := by decide +kernel
theorem dX6_updated_153 : decode cX6_updated 153 = .ok (.laload, 1) := by decide +kernel
theorem dX6_updated_154 : decode cX6_updated 154 = .ok (.aload_n 0, 1) := by decide +kernel
theorem dX6_updated_155 : decode cX6_updated 155 = .ok (.getfield 13, 3) := by decide +kernel
theorem dX6_updated_158 : decode cX6_updated 158 = .ok (.bipush 24, 2) := by decide +kernel
theorem dX6_updated_160 : decode cX6_updated 160 = .ok (.iload_n 1, 1) := by decide +kernel
theorem dX6_updated_161 : decode cX6_updated 161 = .ok (.imul, 1) := by decide +kernel
theorem dX6_updated_162 : decode cX6_updated 162 = .ok (.iload_n 3, 1) := by decide +kernel
theorem dX6_updated_163 : decode cX6_updated 163 = .ok (.iadd, 1) := by decide +kernel
theorem dX6_updated_164 : decode cX6_updated 164 = .ok (.laload, 1) := by decide +kernel
theorem dX6_updated_165 : decode cX6_updated 165 = .ok (.invokevirtual 161, 3) := by decide +kernel
theorem dX6_updated_168 : decode cX6_updated 168 = .ok (.aload_n 0, 1) := by decide +kernel
theorem dX6_updated_169 : decode cX6_updated 169 = .ok (.getfield 92, 3) := by decide +kernel
theorem dX6_updated_172 : decode cX6_updated 172 = .ok (.bipush 12, 2) := by decide +kernel
theorem dX6_updated_174 : decode cX6_updated 174 = .ok (.if_icmp .le 6, 3) := by decide +kernel
theorem dX6_updated_177 : decode cX6_updated 177 = .ok (.bipush (-7), 2) := by decide +kernel
theorem dX6_updated_179 : decode cX6_updated 179 = .ok (.ireturn, 1) := by decide +kernel
theorem dX6_updated_180 : decode cX6_updated 180 = .ok (.aload_n 0, 1) := by decide +kernel
theorem dX6_updated_181 : decode cX6_updated 181 = .ok (.getfield 54, 3) := by decide +kernel
theorem dX6_updated_184 : decode cX6_updated 184 = .ok (.iload_n 2, 1) := by decide +kernel
theorem dX6_updated_185 : decode cX6_updated 185 = .ok (.aload_n 0, 1) := by decide +kernel
theorem dX6_updated_186 : decode cX6_updated 186 = .ok (.invokevirtual 165, 3) := by decide +kernel
theorem dX6_updated_189 : decode cX6_updated 189 = .ok (.lastore, 1) := by decide +kernel
theorem dX6_updated_190 : decode cX6_updated 190 = .ok (.aload_n 0, 1) := by decide +kernel
theorem dX6_updated_191 : decode cX6_updated 191 = .ok (.getfield 48, 3) := by decide +kernel
theorem dX6_updated_194 : decode cX6_updated 194 = .ok (.iload_n 2, 1) := by decide +kernel
theorem dX6_updated_195 : decode cX6_updated 195 = .ok (.iload_n 3, 1) := by decide +kernel
theorem dX6_updated_196 : decode cX6_updated 196 = .ok (.iastore, 1) := by decide +kernel
theorem dX6_updated_197 : decode cX6_updated 197 = .ok (.aload_n 0, 1) := by decide +kernel
theorem dX6_updated_198 : decode cX6_updated 198 = .ok (.getfield 104, 3) := by decide +kernel
theorem dX6_updated_201 : decode cX6_updated 201 = .ok (.ifCond .eq 7, 3) := by decide +kernel
theorem dX6_updated_204 : decode cX6_updated 204 = .ok (.iconst 5, 1) := by decide +kernel
theorem dX6_updated_205 : decode cX6_updated 205 = .ok (.goto 4, 3) := by decide +kernel
theorem dX6_updated_208 : decode cX6_updated 208 = .ok (.iconst 4, 1) := by decide +kernel
theorem dX6_updated_209 : decode cX6_updated 209 = .ok (.ireturn, 1) := by decide +kernel
theorem dX6_take_0 : decode cX6_take 0 = .ok (.aload_n 0, 1) := by decide +kernel
theorem dX6_take_1 : decode cX6_take 1 = .ok (.getfield 48, 3) := by decide +kernel
theorem dX6_take_4 : decode cX6_take 4 = .ok (.iload_n 2, 1) := by decide +kernel
theorem dX6_take_5 : decode cX6_take 5 = .ok (.iload_n 3, 1) := by decide +kernel
theorem dX6_take_6 : decode cX6_take 6 = .ok (.iastore, 1) := by decide +kernel
theorem dX6_take_7 : decode cX6_take 7 = .ok (.aload_n 0, 1) := by decide +kernel
theorem dX6_take_8 : decode cX6_take 8 = .ok (.getfield 51, 3) := by decide +kernel
theorem dX6_take_11 : decode cX6_take 11 = .ok (.iload_n 2, 1) := by decide +kernel
theorem dX6_take_12 : decode cX6_take 12 = .ok (.iconst 0, 1) := by decide +kernel
theorem dX6_take_13 : decode cX6_take 13 = .ok (.bastore, 1) := by decide +kernel
theorem dX6_take_14 : decode cX6_take 14 = .ok (.aload_n 0, 1) := by decide +kernel
theorem dX6_take_15 : decode cX6_take 15 = .ok (.getfield 54, 3) := by decide +kernel
theorem dX6_take_18 : decode cX6_take 18 = .ok (.iload_n 2, 1) := by decide +kernel
theorem dX6_take_19 : decode cX6_take 19 = .ok (.aload_n 0, 1) := by decide +kernel
theorem dX6_take_20 : decode cX6_take 20 = .ok (.getfield 13, 3) := by decide +kernel
theorem dX6_take_23 : decode cX6_take 23 = .ok (.bipush 24, 2) := by decide +kernel
theorem dX6_take_25 : decode cX6_take 25 = .ok (.iload_n 1, 1) := by decide +kernel
theorem dX6_take_26 : decode cX6_take 26 = .ok (.imul, 1) := by decide +kernel
theorem dX6_take_27 : decode cX6_take 27 = .ok (.iload_n 3, 1) := by decide +kernel
theorem dX6_take_28 : decode cX6_take 28 = .ok (.iadd, 1) := by decide +kernel
theorem dX6_take_29 : decode cX6_take 29 = .ok (.laload, 1) := by decide +kernel
theorem dX6_take_30 : decode cX6_take 30 = .ok (.lastore, 1) := by decide +kernel
theorem dX6_take_31 : decode cX6_take 31 = .ok (.return_, 1) := by decide +kernel
theorem dX6_merge_0 : decode cX6_merge 0 = .ok (.aload_n 0, 1) := by decide +kernel
theorem dX6_merge_1 : decode cX6_merge 1 = .ok (.lload_n 1, 1) := by decide +kernel
theorem dX6_merge_2 : decode cX6_merge 2 = .ok (.lload_n 3, 1) := by decide +kernel
theorem dX6_merge_3 : decode cX6_merge 3 = .ok (.iconst 1, 1) := by decide +kernel
theorem dX6_merge_4 : decode cX6_merge 4 = .ok (.invokevirtual 100, 3) := by decide +kernel
theorem dX6_merge_7 : decode cX6_merge 7 = .ok (.aload_n 0, 1) := by decide +kernel
theorem dX6_merge_8 : decode cX6_merge 8 = .ok (.lload_n 1, 1) := by decide +kernel
theorem dX6_merge_9 : decode cX6_merge 9 = .ok (.lload 5, 2) := by decide +kernel
theorem dX6_merge_11 : decode cX6_merge 11 = .ok (.iconst 0, 1) := by decide +kernel
theorem dX6_merge_12 : decode cX6_merge 12 = .ok (.invokevirtual 100, 3) := by decide +kernel
theorem dX6_merge_15 : decode cX6_merge 15 = .ok (.aload_n 0, 1) := by decide +kernel
theorem dX6_merge_16 : decode cX6_merge 16 = .ok (.iconst 0, 1) := by decide +kernel
theorem dX6_merge_17 : decode cX6_merge 17 = .ok (.putfield 92, 3) := by decide +kernel
theorem dX6_merge_20 : decode cX6_merge 20 = .ok (.aload_n 0, 1) := by decide +kernel
theorem dX6_merge_21 : decode cX6_merge 21 = .ok (.iconst 0, 1) := by decide +kernel
theorem dX6_merge_22 : decode cX6_merge 22 = .ok (.putfield 104, 3) := by decide +kernel
theorem dX6_merge_25 : decode cX6_merge 25 = .ok (.iconst 0, 1) := by decide +kernel
theorem dX6_merge_26 : decode cX6_merge 26 = .ok (.istore 7, 2) := by decide +kernel
theorem dX6_merge_28 : decode cX6_merge 28 = .ok (.iconst 0, 1) := by decide +kernel
theorem dX6_merge_29 : decode cX6_merge 29 = .ok (.istore 8, 2) := by decide +kernel
theorem dX6_merge_31 : decode cX6_merge 31 = .ok (.iconst 0, 1) := by decide +kernel
theorem dX6_merge_32 : decode cX6_merge 32 = .ok (.istore 9, 2) := by decide +kernel
theorem dX6_merge_34 : decode cX6_merge 34 = .ok (.iconst 0, 1) := by decide +kernel
theorem dX6_merge_35 : decode cX6_merge 35 = .ok (.istore 10, 2) := by decide +kernel
theorem dX6_merge_37 : decode cX6_merge 37 = .ok (.iload 10, 2) := by decide +kernel
theorem dX6_merge_39 : decode cX6_merge 39 = .ok (.lload_n 1, 1) := by decide +kernel
theorem dX6_merge_40 : decode cX6_merge 40 = .ok (.invokestatic 78, 3) := by decide +kernel
theorem dX6_merge_43 : decode cX6_merge 43 = .ok (.if_icmp .gt 252, 3) := by decide +kernel
theorem dX6_merge_46 : decode cX6_merge 46 = .ok (.iload 10, 2) := by decide +kernel
theorem dX6_merge_48 : decode cX6_merge 48 = .ok (.lload_n 1, 1) := by decide +kernel
theorem dX6_merge_49 : decode cX6_merge 49 = .ok (.invokestatic 78, 3) := by decide +kernel
theorem dX6_merge_52 : decode cX6_merge 52 = .ok (.if_icmp .ge 27, 3) := by decide +kernel
theorem dX6_merge_55 : decode cX6_merge 55 = .ok (.aload_n 0, 1) := by decide +kernel
theorem dX6_merge_56 : decode cX6_merge 56 = .ok (.getfield 63, 3) := by decide +kernel
theorem dX6_merge_59 : decode cX6_merge 59 = .ok (.iload 10, 2) := by decide +kernel
theorem dX6_merge_61 : decode cX6_merge 61 = .ok (.iaload, 1) := by decide +kernel
theorem dX6_merge_62 : decode cX6_merge 62 = .ok (.ifCond .lt 17, 3) := by decide +kernel
theorem dX6_merge_65 : decode cX6_merge 65 = .ok (.aload_n 0, 1) := by decide +kernel
theorem dX6_merge_66 : decode cX6_merge 66 = .ok (.getfield 66, 3) := by decide +kernel
theorem dX6_merge_69 : decode cX6_merge 69 = .ok (.iload 10, 2) := by decide +kernel
theorem dX6_merge_71 : decode cX6_merge 71 = .ok (.iaload, 1) := by decide +kernel
theorem dX6_merge_72 : decode cX6_merge 72 = .ok (.ifCond .lt 7, 3) := by decide +kernel
theorem dX6_merge_75 : decode cX6_merge 75 = .ok (.iconst 1, 1) := by decide +kernel
theorem dX6_merge_76 : decode cX6_merge 76 = .ok (.goto 4, 3) := by decide +kernel
theorem dX6_merge_79 : decode cX6_merge 79 = .ok (.iconst 0, 1) := by decide +kernel
theorem dX6_merge_80 : decode cX6_merge 80 = .ok (.istore 11, 2) := by decide +kernel
theorem dX6_merge_82 : decode cX6_merge 82 = .ok (.iload 11, 2) := by decide +kernel
theorem dX6_merge_84 : decode cX6_merge 84 = .ok (.ifCond .ne 12, 3) := by decide +kernel
theorem dX6_merge_87 : decode cX6_merge 87 = .ok (.iload 10, 2) := by decide +kernel
theorem dX6_merge_89 : decode cX6_merge 89 = .ok (.lload_n 1, 1) := by decide +kernel
theorem dX6_merge_90 : decode cX6_merge 90 = .ok (.invokestatic 78, 3) := by decide +kernel
theorem dX6_merge_93 : decode cX6_merge 93 = .ok (.if_icmp .ne 196, 3) := by decide +kernel
theorem dX6_merge_96 : decode cX6_merge 96 = .ok (.iload 11, 2) := by decide +kernel
theorem dX6_merge_98 : decode cX6_merge 98 = .ok (.ifCond .eq 13, 3) := by decide +kernel
theorem dX6_merge_101 : decode cX6_merge 101 = .ok (.aload_n 0, 1) := by decide +kernel
theorem dX6_merge_102 : decode cX6_merge 102 = .ok (.getfield 63, 3) := by decide +kernel
theorem dX6_merge_105 : decode cX6_merge 105 = .ok (.iload 10, 2) := by decide +kernel
theorem dX6_merge_107 : decode cX6_merge 107 = .ok (.iaload, 1) := by decide +kernel
theorem dX6_merge_108 : decode cX6_merge 108 = .ok (.goto 7, 3) := by decide +kernel
theorem dX6_merge_111 : decode cX6_merge 111 = .ok (.lload_n 3, 1) := by decide +kernel
theorem dX6_merge_112 : decode cX6_merge 112 = .ok (.invokestatic 78, 3) := by decide +kernel
theorem dX6_merge_115 : decode cX6_merge 115 = .ok (.istore 12, 2) := by decide +kernel
theorem dX6_merge_117 : decode cX6_merge 117 = .ok (.iload 11, 2) := by decide +kernel
theorem dX6_merge_119 : decode cX6_merge 119 = .ok (.ifCond .eq 13, 3) := by decide +kernel
theorem dX6_merge_122 : decode cX6_merge 122 = .ok (.aload_n 0, 1) := by decide +kernel
theorem dX6_merge_123 : decode cX6_merge 123 = .ok (.getfield 66, 3) := by decide +kernel
theorem dX6_merge_126 : decode cX6_merge 126 = .ok (.iload 10, 2) := by decide +kernel
theorem dX6_merge_128 : decode cX6_merge 128 = .ok (.iaload, 1) := by decide +kernel
theorem dX6_merge_129 : decode cX6_merge 129 = .ok (.goto 8, 3) := by decide +kernel
theorem dX6_merge_132 : decode cX6_merge 132 = .ok (.lload 5, 2) := by decide +kernel
theorem dX6_merge_134 : decode cX6_merge 134 = .ok (.invokestatic 78, 3) := by decide +kernel
theorem dX6_merge_137 : decode cX6_merge 137 = .ok (.istore 13, 2) := by decide +kernel
theorem dX6_merge_139 : decode cX6_merge 139 = .ok (.lload_n 3, 1) := by decide +kernel
theorem dX6_merge_140 : decode cX6_merge 140 = .ok (.iload 8, 2) := by decide +kernel
theorem dX6_merge_142 : decode cX6_merge 142 = .ok (.iload 12, 2) := by decide +kernel
theorem dX6_merge_144 : decode cX6_merge 144 = .ok (.lload_n 1, 1) := by decide +kernel
theorem dX6_merge_145 : decode cX6_merge 145 = .ok (.iload 7, 2) := by decide +kernel
theorem dX6_merge_147 : decode cX6_merge 147 = .ok (.iload 10, 2) := by decide +kernel
theorem dX6_merge_149 : decode cX6_merge 149 = .ok (.invokestatic 108, 3) := by decide +kernel
theorem dX6_merge_152 : decode cX6_merge 152 = .ok (.ifCond .eq 16, 3) := by decide +kernel
theorem dX6_merge_155 : decode cX6_merge 155 = .ok (.aload_n 0, 1) := by decide +kernel
theorem dX6_merge_156 : decode cX6_merge 156 = .ok (.lload 5, 2) := by decide +kernel
theorem dX6_merge_158 : decode cX6_merge 158 = .ok (.iload 9, 2) := by decide +kernel
theorem dX6_merge_160 : decode cX6_merge 160 = .ok (.iload 13, 2) := by decide +kernel
theorem dX6_merge_162 : decode cX6_merge 162 = .ok (.invokevirtual 112, 3) := by decide +kernel
theorem dX6_merge_165 : decode cX6_merge 165 = .ok (.goto 91, 3) := by decide +kernel
theorem dX6_merge_168 : decode cX6_merge 168 = .ok (.lload 5, 2) := by decide +kernel
theorem dX6_merge_170 : decode cX6_merge 170 = .ok (.iload 9, 2) := by decide +kernel
theorem dX6_merge_172 : decode cX6_merge 172 = .ok (.iload 13, 2) := by decide +kernel
theorem dX6_merge_174 : decode cX6_merge 174 = .ok (.lload_n 1, 1) := by decide +kernel
theorem dX6_merge_175 : decode cX6_merge 175 = .ok (.iload 7, 2) := by decide +kernel
theorem dX6_merge_177 : decode cX6_merge 177 = .ok (.iload 10, 2) := by decide +kernel
theorem dX6_merge_179 : decode cX6_merge 179 = .ok (.invokestatic 108, 3) := by decide +kernel
theorem dX6_merge_182 : decode cX6_merge 182 = .ok (.ifCond .ne 20, 3) := by decide +kernel
theorem dX6_merge_185 : decode cX6_merge 185 = .ok (.lload 5, 2) := by decide +kernel
theorem dX6_merge_187 : decode cX6_merge 187 = .ok (.iload 9, 2) := by decide +kernel
theorem dX6_merge_189 : decode cX6_merge 189 = .ok (.iload 13, 2) := by decide +kernel
theorem dX6_merge_191 : decode cX6_merge 191 = .ok (.lload_n 3, 1) := by decide +kernel
theorem dX6_merge_192 : decode cX6_merge 192 = .ok (.iload 8, 2) := by decide +kernel
theorem dX6_merge_194 : decode cX6_merge 194 = .ok (.iload 12, 2) := by decide +kernel
theorem dX6_merge_196 : decode cX6_merge 196 = .ok (.invokestatic 108, 3) := by decide +kernel
theorem dX6_merge_199 : decode cX6_merge 199 = .ok (.ifCond .eq 15, 3) := by decide +kernel
theorem dX6_merge_202 : decode cX6_merge 202 = .ok (.aload_n 0, 1) := by decide +kernel
theorem dX6_merge_203 : decode cX6_merge 203 = .ok (.lload_n 3, 1) := by decide +kernel
theorem dX6_merge_204 : decode cX6_merge 204 = .ok (.iload 8, 2) := by decide +kernel
theorem dX6_merge_206 : decode cX6_merge 206 = .ok (.iload 12, 2) := by decide +kernel
theorem dX6_merge_208 : decode cX6_merge 208 = .ok (.invokevirtual 112, 3) := by decide +kernel
theorem dX6_merge_211 : decode cX6_merge 211 = .ok (.goto 45, 3) := by decide +kernel
theorem dX6_merge_214 : decode cX6_merge 214 = .ok (.aload_n 0, 1) := by decide +kernel
theorem dX6_merge_215 : decode cX6_merge 215 = .ok (.iconst 1, 1) := by decide +kernel
theorem dX6_merge_216 : decode cX6_merge 216 = .ok (.putfield 104, 3) := by decide +kernel
theorem dX6_merge_219 : decode cX6_merge 219 = .ok (.aload_n 0, 1) := by decide +kernel
theorem dX6_merge_220 : decode cX6_merge 220 = .ok (.bipush 17, 2) := by decide +kernel
theorem dX6_merge_222 : decode cX6_merge 222 = .ok (.invokevirtual 96, 3) := by decide +kernel
theorem dX6_merge_225 : decode cX6_merge 225 = .ok (.aload_n 0, 1) := by decide +kernel
theorem dX6_merge_226 : decode cX6_merge 226 = .ok (.lload_n 3, 1) := by decide +kernel
theorem dX6_merge_227 : decode cX6_merge 227 = .ok (.iload 8, 2) := by decide +kernel
theorem dX6_merge_229 : decode cX6_merge 229 = .ok (.iload 12, 2) := by decide +kernel
theorem dX6_merge_231 : decode cX6_merge 231 = .ok (.invokevirtual 112, 3) := by decide +kernel
theorem dX6_merge_234 : decode cX6_merge 234 = .ok (.aload_n 0, 1) := by decide +kernel
theorem dX6_merge_235 : decode cX6_merge 235 = .ok (.bipush 18, 2) := by decide +kernel
theorem dX6_merge_237 : decode cX6_merge 237 = .ok (.invokevirtual 96, 3) := by decide +kernel
theorem dX6_merge_240 : decode cX6_merge 240 = .ok (.aload_n 0, 1) := by decide +kernel
theorem dX6_merge_241 : decode cX6_merge 241 = .ok (.lload 5, 2) := by decide +kernel
theorem dX6_merge_243 : decode cX6_merge 243 = .ok (.iload 9, 2) := by decide +kernel
theorem dX6_merge_245 : decode cX6_merge 245 = .ok (.iload 13, 2) := by decide +kernel
theorem dX6_merge_247 : decode cX6_merge 247 = .ok (.invokevirtual 112, 3) := by decide +kernel
theorem dX6_merge_250 : decode cX6_merge 250 = .ok (.aload_n 0, 1) := by decide +kernel
theorem dX6_merge_251 : decode cX6_merge 251 = .ok (.bipush 19, 2) := by decide +kernel
theorem dX6_merge_253 : decode cX6_merge 253 = .ok (.invokevirtual 96, 3) := by decide +kernel
theorem dX6_merge_256 : decode cX6_merge 256 = .ok (.iload 11, 2) := by decide +kernel
theorem dX6_merge_258 : decode cX6_merge 258 = .ok (.ifCond .eq 13, 3) := by decide +kernel
theorem dX6_merge_261 : decode cX6_merge 261 = .ok (.aload_n 0, 1) := by decide +kernel
theorem dX6_merge_262 : decode cX6_merge 262 = .ok (.lload_n 1, 1) := by decide +kernel
theorem dX6_merge_263 : decode cX6_merge 263 = .ok (.iload 10, 2) := by decide +kernel
theorem dX6_merge_265 : decode cX6_merge 265 = .ok (.invokestatic 84, 3) := by decide +kernel
theorem dX6_merge_268 : decode cX6_merge 268 = .ok (.invokevirtual 96, 3) := by decide +kernel
theorem dX6_merge_271 : decode cX6_merge 271 = .ok (.iload 10, 2) := by decide +kernel
theorem dX6_merge_273 : decode cX6_merge 273 = .ok (.iconst 1, 1) := by decide +kernel
theorem dX6_merge_274 : decode cX6_merge 274 = .ok (.iadd, 1) := by decide +kernel
theorem dX6_merge_275 : decode cX6_merge 275 = .ok (.istore 7, 2) := by decide +kernel
theorem dX6_merge_277 : decode cX6_merge 277 = .ok (.iload 12, 2) := by decide +kernel
theorem dX6_merge_279 : decode cX6_merge 279 = .ok (.iconst 1, 1) := by decide +kernel
theorem dX6_merge_280 : decode cX6_merge 280 = .ok (.iadd, 1) := by decide +kernel
theorem dX6_merge_281 : decode cX6_merge 281 = .ok (.istore 8, 2) := by decide +kernel
theorem dX6_merge_283 : decode cX6_merge 283 = .ok (.iload 13, 2) := by decide +kernel
theorem dX6_merge_285 : decode cX6_merge 285 = .ok (.iconst 1, 1) := by decide +kernel
theorem dX6_merge_286 : decode cX6_merge 286 = .ok (.iadd, 1) := by decide +kernel
theorem dX6_merge_287 : decode cX6_merge 287 = .ok (.istore 9, 2) := by decide +kernel
theorem dX6_merge_289 : decode cX6_merge 289 = .ok (.iinc 10 1, 3) := by decide +kernel
theorem dX6_merge_292 : decode cX6_merge 292 = .ok (.goto (-255), 3) := by decide +kernel
theorem dX6_merge_295 : decode cX6_merge 295 = .ok (.return_, 1) := by decide +kernel
theorem dX6_pairUp_0 : decode cX6_pairUp 0 = .ok (.aload_n 0, 1) := by decide +kernel
theorem dX6_pairUp_1 : decode cX6_pairUp 1 = .ok (.lload_n 1, 1) := by decide +kernel
theorem dX6_pairUp_2 : decode cX6_pairUp 2 = .ok (.lload_n 3, 1) := by decide +kernel
theorem dX6_pairUp_3 : decode cX6_pairUp 3 = .ok (.invokevirtual 88, 3) := by decide +kernel
theorem dX6_pairUp_6 : decode cX6_pairUp 6 = .ok (.iconst 0, 1) := by decide +kernel
theorem dX6_pairUp_7 : decode cX6_pairUp 7 = .ok (.istore 6, 2) := by decide +kernel
theorem dX6_pairUp_9 : decode cX6_pairUp 9 = .ok (.iload 6, 2) := by decide +kernel
theorem dX6_pairUp_11 : decode cX6_pairUp 11 = .ok (.bipush 13, 2) := by decide +kernel
theorem dX6_pairUp_13 : decode cX6_pairUp 13 = .ok (.if_icmp .ge 33, 3) := by decide +kernel
theorem dX6_pairUp_16 : decode cX6_pairUp 16 = .ok (.iload 5, 2) := by decide +kernel
theorem dX6_pairUp_18 : decode cX6_pairUp 18 = .ok (.ifCond .eq 14, 3) := by decide +kernel
theorem dX6_pairUp_21 : decode cX6_pairUp 21 = .ok (.aload_n 0, 1) := by decide +kernel
theorem dX6_pairUp_22 : decode cX6_pairUp 22 = .ok (.getfield 63, 3) := by decide +kernel
theorem dX6_pairUp_25 : decode cX6_pairUp 25 = .ok (.iload 6, 2) := by decide +kernel
theorem dX6_pairUp_27 : decode cX6_pairUp 27 = .ok (.iconst (-1), 1) := by decide +kernel
theorem dX6_pairUp_28 : decode cX6_pairUp 28 = .ok (.iastore, 1) := by decide +kernel
theorem dX6_pairUp_29 : decode cX6_pairUp 29 = .ok (.goto 11, 3) := by decide +kernel
theorem dX6_pairUp_32 : decode cX6_pairUp 32 = .ok (.aload_n 0, 1) := by decide +kernel
theorem dX6_pairUp_33 : decode cX6_pairUp 33 = .ok (.getfield 66, 3) := by decide +kernel
theorem dX6_pairUp_36 : decode cX6_pairUp 36 = .ok (.iload 6, 2) := by decide +kernel
theorem dX6_pairUp_38 : decode cX6_pairUp 38 = .ok (.iconst (-1), 1) := by decide +kernel
theorem dX6_pairUp_39 : decode cX6_pairUp 39 = .ok (.iastore, 1) := by decide +kernel
theorem dX6_pairUp_40 : decode cX6_pairUp 40 = .ok (.iinc 6 1, 3) := by decide +kernel
theorem dX6_pairUp_43 : decode cX6_pairUp 43 = .ok (.goto (-34), 3) := by decide +kernel
theorem dX6_pairUp_46 : decode cX6_pairUp 46 = .ok (.iconst 0, 1) := by decide +kernel
theorem dX6_pairUp_47 : decode cX6_pairUp 47 = .ok (.istore 6, 2) := by decide +kernel
theorem dX6_pairUp_49 : decode cX6_pairUp 49 = .ok (.iconst 0, 1) := by decide +kernel
theorem dX6_pairUp_50 : decode cX6_pairUp 50 = .ok (.istore 7, 2) := by decide +kernel
theorem dX6_pairUp_52 : decode cX6_pairUp 52 = .ok (.iload 6, 2) := by decide +kernel
theorem dX6_pairUp_54 : decode cX6_pairUp 54 = .ok (.lload_n 1, 1) := by decide +kernel
theorem dX6_pairUp_55 : decode cX6_pairUp 55 = .ok (.invokestatic 78, 3) := by decide +kernel
theorem dX6_pairUp_58 : decode cX6_pairUp 58 = .ok (.if_icmp .ge 108, 3) := by decide +kernel
theorem dX6_pairUp_61 : decode cX6_pairUp 61 = .ok (.iload 7, 2) := by decide +kernel
theorem dX6_pairUp_63 : decode cX6_pairUp 63 = .ok (.lload_n 3, 1) := by decide +kernel
theorem dX6_pairUp_64 : decode cX6_pairUp 64 = .ok (.invokestatic 78, 3) := by decide +kernel
theorem dX6_pairUp_67 : decode cX6_pairUp 67 = .ok (.if_icmp .ge 99, 3) := by decide +kernel
theorem dX6_pairUp_70 : decode cX6_pairUp 70 = .ok (.lload_n 1, 1) := by decide +kernel
theorem dX6_pairUp_71 : decode cX6_pairUp 71 = .ok (.iload 6, 2) := by decide +kernel
theorem dX6_pairUp_73 : decode cX6_pairUp 73 = .ok (.invokestatic 84, 3) := by decide +kernel
theorem dX6_pairUp_76 : decode cX6_pairUp 76 = .ok (.lload_n 3, 1) := by decide +kernel
theorem dX6_pairUp_77 : decode cX6_pairUp 77 = .ok (.iload 7, 2) := by decide +kernel
theorem dX6_pairUp_79 : decode cX6_pairUp 79 = .ok (.invokestatic 84, 3) := by decide +kernel
theorem dX6_pairUp_82 : decode cX6_pairUp 82 = .ok (.if_icmp .ne 38, 3) := by decide +kernel
theorem dX6_pairUp_85 : decode cX6_pairUp 85 = .ok (.iload 5, 2) := by decide +kernel
theorem dX6_pairUp_87 : decode cX6_pairUp 87 = .ok (.ifCond .eq 15, 3) := by decide +kernel
theorem dX6_pairUp_90 : decode cX6_pairUp 90 = .ok (.aload_n 0, 1) := by decide +kernel
theorem dX6_pairUp_91 : decode cX6_pairUp 91 = .ok (.getfield 63, 3) := by decide +kernel
theorem dX6_pairUp_94 : decode cX6_pairUp 94 = .ok (.iload 6, 2) := by decide +kernel
theorem dX6_pairUp_96 : decode cX6_pairUp 96 = .ok (.iload 7, 2) := by decide +kernel
theorem dX6_pairUp_98 : decode cX6_pairUp 98 = .ok (.iastore, 1) := by decide +kernel
theorem dX6_pairUp_99 : decode cX6_pairUp 99 = .ok (.goto 12, 3) := by decide +kernel
theorem dX6_pairUp_102 : decode cX6_pairUp 102 = .ok (.aload_n 0, 1) := by decide +kernel
theorem dX6_pairUp_103 : decode cX6_pairUp 103 = .ok (.getfield 66, 3) := by decide +kernel
theorem dX6_pairUp_106 : decode cX6_pairUp 106 = .ok (.iload 6, 2) := by decide +kernel
theorem dX6_pairUp_108 : decode cX6_pairUp 108 = .ok (.iload 7, 2) := by decide +kernel
theorem dX6_pairUp_110 : decode cX6_pairUp 110 = .ok (.iastore, 1) := by decide +kernel
theorem dX6_pairUp_111 : decode cX6_pairUp 111 = .ok (.iinc 6 1, 3) := by decide +kernel
theorem dX6_pairUp_114 : decode cX6_pairUp 114 = .ok (.iinc 7 1, 3) := by decide +kernel
theorem dX6_pairUp_117 : decode cX6_pairUp 117 = .ok (.goto (-65), 3) := by decide +kernel
theorem dX6_pairUp_120 : decode cX6_pairUp 120 = .ok (.aload_n 0, 1) := by decide +kernel
theorem dX6_pairUp_121 : decode cX6_pairUp 121 = .ok (.getfield 60, 3) := by decide +kernel
theorem dX6_pairUp_124 : decode cX6_pairUp 124 = .ok (.bipush 13, 2) := by decide +kernel
theorem dX6_pairUp_126 : decode cX6_pairUp 126 = .ok (.iload 6, 2) := by decide +kernel
theorem dX6_pairUp_128 : decode cX6_pairUp 128 = .ok (.imul, 1) := by decide +kernel
theorem dX6_pairUp_129 : decode cX6_pairUp 129 = .ok (.bipush 13, 2) := by decide +kernel
theorem dX6_pairUp_131 : decode cX6_pairUp 131 = .ok (.iadd, 1) := by decide +kernel
theorem dX6_pairUp_132 : decode cX6_pairUp 132 = .ok (.iload 7, 2) := by decide +kernel
theorem dX6_pairUp_134 : decode cX6_pairUp 134 = .ok (.iadd, 1) := by decide +kernel
theorem dX6_pairUp_135 : decode cX6_pairUp 135 = .ok (.iaload, 1) := by decide +kernel
theorem dX6_pairUp_136 : decode cX6_pairUp 136 = .ok (.aload_n 0, 1) := by decide +kernel
theorem dX6_pairUp_137 : decode cX6_pairUp 137 = .ok (.getfield 60, 3) := by decide +kernel
theorem dX6_pairUp_140 : decode cX6_pairUp 140 = .ok (.bipush 13, 2) := by decide +kernel
theorem dX6_pairUp_142 : decode cX6_pairUp 142 = .ok (.iload 6, 2) := by decide +kernel
theorem dX6_pairUp_144 : decode cX6_pairUp 144 = .ok (.imul, 1) := by decide +kernel
theorem dX6_pairUp_145 : decode cX6_pairUp 145 = .ok (.iload 7, 2) := by decide +kernel
theorem dX6_pairUp_147 : decode cX6_pairUp 147 = .ok (.iadd, 1) := by decide +kernel
theorem dX6_pairUp_148 : decode cX6_pairUp 148 = .ok (.iconst 1, 1) := by decide +kernel
theorem dX6_pairUp_149 : decode cX6_pairUp 149 = .ok (.iadd, 1) := by decide +kernel
theorem dX6_pairUp_150 : decode cX6_pairUp 150 = .ok (.iaload, 1) := by decide +kernel
theorem dX6_pairUp_151 : decode cX6_pairUp 151 = .ok (.if_icmp .lt 9, 3) := by decide +kernel
theorem dX6_pairUp_154 : decode cX6_pairUp 154 = .ok (.iinc 6 1, 3) := by decide +kernel
theorem dX6_pairUp_157 : decode cX6_pairUp 157 = .ok (.goto (-105), 3) := by decide +kernel
theorem dX6_pairUp_160 : decode cX6_pairUp 160 = .ok (.iinc 7 1, 3) := by decide +kernel
theorem dX6_pairUp_163 : decode cX6_pairUp 163 = .ok (.goto (-111), 3) := by decide +kernel
theorem dX6_pairUp_166 : decode cX6_pairUp 166 = .ok (.return_, 1) := by decide +kernel
end
section
/-! what the bytes say -/
theorem dX6_fill_0 : decode cX6_fill 0 = .ok (.iconst 0, 1) := by decide +kernel
theorem dX6_fill_1 : decode cX6_fill 1 = .ok (.istore 5, 2) := by decide +kernel
theorem dX6_fill_3 : decode cX6_fill 3 = .ok (.iload 5, 2) := by decide +kernel
theorem dX6_fill_5 : decode cX6_fill 5 = .ok (.sipush 169, 3) := by decide +kernel
theorem dX6_fill_8 : decode cX6_fill 8 = .ok (.if_icmp .ge 17, 3) := by decide +kernel
theorem dX6_fill_11 : decode cX6_fill 11 = .ok (.aload_n 0, 1) := by decide +kernel
theorem dX6_fill_12 : decode cX6_fill 12 = .ok (.getfield 60, 3) := by decide +kernel
theorem dX6_fill_15 : decode cX6_fill 15 = .ok (.iload 5, 2) := by decide +kernel
theorem dX6_fill_17 : decode cX6_fill 17 = .ok (.iconst 0, 1) := by decide +kernel
theorem dX6_fill_18 : decode cX6_fill 18 = .ok (.iastore, 1) := by decide +kernel
theorem dX6_fill_19 : decode cX6_fill 19 = .ok (.iinc 5 1, 3) := by decide +kernel
theorem dX6_fill_22 : decode cX6_fill 22 = .ok (.goto (-19), 3) := by decide +kernel
theorem dX6_fill_25 : decode cX6_fill 25 = .ok (.lload_n 1, 1) := by decide +kernel
theorem dX6_fill_26 : decode cX6_fill 26 = .ok (.invokestatic 78, 3) := by decide +kernel
theorem dX6_fill_29 : decode cX6_fill 29 = .ok (.iconst 1, 1) := by decide +kernel
theorem dX6_fill_30 : decode cX6_fill 30 = .ok (.isub, 1) := by decide +kernel
theorem dX6_fill_31 : decode cX6_fill 31 = .ok (.istore 5, 2) := by decide +kernel
theorem dX6_fill_33 : decode cX6_fill 33 = .ok (.iload 5, 2) := by decide +kernel
theorem dX6_fill_35 : decode cX6_fill 35 = .ok (.ifCond .lt 132, 3) := by decide +kernel
theorem dX6_fill_38 : decode cX6_fill 38 = .ok (.lload_n 3, 1) := by decide +kernel
theorem dX6_fill_39 : decode cX6_fill 39 = .ok (.invokestatic 78, 3) := by decide +kernel
theorem dX6_fill_42 : decode cX6_fill 42 = .ok (.iconst 1, 1) := by decide +kernel
theorem dX6_fill_43 : decode cX6_fill 43 = .ok (.isub, 1) := by decide +kernel
theorem dX6_fill_44 : decode cX6_fill 44 = .ok (.istore 6, 2) := by decide +kernel
theorem dX6_fill_46 : decode cX6_fill 46 = .ok (.iload 6, 2) := by decide +kernel
theorem dX6_fill_48 : decode cX6_fill 48 = .ok (.ifCond .lt 113, 3) := by decide +kernel
theorem dX6_fill_51 : decode cX6_fill 51 = .ok (.aload_n 0, 1) := by decide +kernel
theorem dX6_fill_52 : decode cX6_fill 52 = .ok (.getfield 60, 3) := by decide +kernel
theorem dX6_fill_55 : decode cX6_fill 55 = .ok (.bipush 13, 2) := by decide +kernel
theorem dX6_fill_57 : decode cX6_fill 57 = .ok (.iload 5, 2) := by decide +kernel
theorem dX6_fill_59 : decode cX6_fill 59 = .ok (.imul, 1) := by decide +kernel
theorem dX6_fill_60 : decode cX6_fill 60 = .ok (.bipush 13, 2) := by decide +kernel
theorem dX6_fill_62 : decode cX6_fill 62 = .ok (.iadd, 1) := by decide +kernel
theorem dX6_fill_63 : decode cX6_fill 63 = .ok (.iload 6, 2) := by decide +kernel
theorem dX6_fill_65 : decode cX6_fill 65 = .ok (.iadd, 1) := by decide +kernel
theorem dX6_fill_66 : decode cX6_fill 66 = .ok (.iaload, 1) := by decide +kernel
theorem dX6_fill_67 : decode cX6_fill 67 = .ok (.istore 7, 2) := by decide +kernel
theorem dX6_fill_69 : decode cX6_fill 69 = .ok (.aload_n 0, 1) := by decide +kernel
theorem dX6_fill_70 : decode cX6_fill 70 = .ok (.getfield 60, 3) := by decide +kernel
theorem dX6_fill_73 : decode cX6_fill 73 = .ok (.bipush 13, 2) := by decide +kernel
theorem dX6_fill_75 : decode cX6_fill 75 = .ok (.iload 5, 2) := by decide +kernel
theorem dX6_fill_77 : decode cX6_fill 77 = .ok (.imul, 1) := by decide +kernel
theorem dX6_fill_78 : decode cX6_fill 78 = .ok (.iload 6, 2) := by decide +kernel
theorem dX6_fill_80 : decode cX6_fill 80 = .ok (.iadd, 1) := by decide +kernel
theorem dX6_fill_81 : decode cX6_fill 81 = .ok (.iconst 1, 1) := by decide +kernel
theorem dX6_fill_82 : decode cX6_fill 82 = .ok (.iadd, 1) := by decide +kernel
theorem dX6_fill_83 : decode cX6_fill 83 = .ok (.iaload, 1) := by decide +kernel
theorem dX6_fill_84 : decode cX6_fill 84 = .ok (.istore 8, 2) := by decide +kernel
theorem dX6_fill_86 : decode cX6_fill 86 = .ok (.iconst 1, 1) := by decide +kernel
theorem dX6_fill_87 : decode cX6_fill 87 = .ok (.aload_n 0, 1) := by decide +kernel
theorem dX6_fill_88 : decode cX6_fill 88 = .ok (.getfield 60, 3) := by decide +kernel
theorem dX6_fill_91 : decode cX6_fill 91 = .ok (.bipush 13, 2) := by decide +kernel
theorem dX6_fill_93 : decode cX6_fill 93 = .ok (.iload 5, 2) := by decide +kernel
theorem dX6_fill_95 : decode cX6_fill 95 = .ok (.imul, 1) := by decide +kernel
theorem dX6_fill_96 : decode cX6_fill 96 = .ok (.bipush 13, 2) := by decide +kernel
theorem dX6_fill_98 : decode cX6_fill 98 = .ok (.iadd, 1) := by decide +kernel
theorem dX6_fill_99 : decode cX6_fill 99 = .ok (.iload 6, 2) := by decide +kernel
theorem dX6_fill_101 : decode cX6_fill 101 = .ok (.iadd, 1) := by decide +kernel
theorem dX6_fill_102 : decode cX6_fill 102 = .ok (.iconst 1, 1) := by decide +kernel
theorem dX6_fill_103 : decode cX6_fill 103 = .ok (.iadd, 1) := by decide +kernel
theorem dX6_fill_104 : decode cX6_fill 104 = .ok (.iaload, 1) := by decide +kernel
theorem dX6_fill_105 : decode cX6_fill 105 = .ok (.iadd, 1) := by decide +kernel
theorem dX6_fill_106 : decode cX6_fill 106 = .ok (.istore 9, 2) := by decide +kernel
theorem dX6_fill_108 : decode cX6_fill 108 = .ok (.aload_n 0, 1) := by decide +kernel
theorem dX6_fill_109 : decode cX6_fill 109 = .ok (.getfield 60, 3) := by decide +kernel
theorem dX6_fill_112 : decode cX6_fill 112 = .ok (.bipush 13, 2) := by decide +kernel
theorem dX6_fill_114 : decode cX6_fill 114 = .ok (.iload 5, 2) := by decide +kernel
theorem dX6_fill_116 : decode cX6_fill 116 = .ok (.imul, 1) := by decide +kernel
theorem dX6_fill_117 : decode cX6_fill 117 = .ok (.iload 6, 2) := by decide +kernel
theorem dX6_fill_119 : decode cX6_fill 119 = .ok (.iadd, 1) := by decide +kernel
theorem dX6_fill_120 : decode cX6_fill 120 = .ok (.lload_n 1, 1) := by decide +kernel
theorem dX6_fill_121 : decode cX6_fill 121 = .ok (.iload 5, 2) := by decide +kernel
theorem dX6_fill_123 : decode cX6_fill 123 = .ok (.invokestatic 84, 3) := by decide +kernel
theorem dX6_fill_126 : decode cX6_fill 126 = .ok (.lload_n 3, 1) := by decide +kernel
theorem dX6_fill_127 : decode cX6_fill 127 = .ok (.iload 6, 2) := by decide +kernel
theorem dX6_fill_129 : decode cX6_fill 129 = .ok (.invokestatic 84, 3) := by decide +kernel
theorem dX6_fill_132 : decode cX6_fill 132 = .ok (.if_icmp .ne 8, 3) := by decide +kernel
theorem dX6_fill_135 : decode cX6_fill 135 = .ok (.iload 9, 2) := by decide +kernel
theorem dX6_fill_137 : decode cX6_fill 137 = .ok (.goto 17, 3) := by decide +kernel
theorem dX6_fill_140 : decode cX6_fill 140 = .ok (.iload 7, 2) := by decide +kernel
theorem dX6_fill_142 : decode cX6_fill 142 = .ok (.iload 8, 2) := by decide +kernel
theorem dX6_fill_144 : decode cX6_fill 144 = .ok (.if_icmp .le 8, 3) := by decide +kernel
theorem dX6_fill_147 : decode cX6_fill 147 = .ok (.iload 7, 2) := by decide +kernel
theorem dX6_fill_149 : decode cX6_fill 149 = .ok (.goto 5, 3) := by decide +kernel
theorem dX6_fill_152 : decode cX6_fill 152 = .ok (.iload 8, 2) := by decide +kernel
theorem dX6_fill_154 : decode cX6_fill 154 = .ok (.iastore, 1) := by decide +kernel
theorem dX6_fill_155 : decode cX6_fill 155 = .ok (.iinc 6 (-1), 3) := by decide +kernel
theorem dX6_fill_158 : decode cX6_fill 158 = .ok (.goto (-112), 3) := by decide +kernel
theorem dX6_fill_161 : decode cX6_fill 161 = .ok (.iinc 5 (-1), 3) := by decide +kernel
theorem dX6_fill_164 : decode cX6_fill 164 = .ok (.goto (-131), 3) := by decide +kernel
theorem dX6_fill_167 : decode cX6_fill 167 = .ok (.return_, 1) := by decide +kernel
theorem dX6_alike_0 : decode cX6_alike 0 = .ok (.iload_n 3, 1) := by decide +kernel
theorem dX6_alike_1 : decode cX6_alike 1 = .ok (.iload_n 2, 1) := by decide +kernel
theorem dX6_alike_2 : decode cX6_alike 2 = .ok (.isub, 1) := by decide +kernel
theorem dX6_alike_3 : decode cX6_alike 3 = .ok (.iload 7, 2) := by decide +kernel
theorem dX6_alike_5 : decode cX6_alike 5 = .ok (.iload 6, 2) := by decide +kernel
theorem dX6_alike_7 : decode cX6_alike 7 = .ok (.isub, 1) := by decide +kernel
theorem dX6_alike_8 : decode cX6_alike 8 = .ok (.if_icmp .ne 7, 3) := by decide +kernel
theorem dX6_alike_11 : decode cX6_alike 11 = .ok (.iconst 1, 1) := by decide +kernel
theorem dX6_alike_12 : decode cX6_alike 12 = .ok (.goto 4, 3) := by decide +kernel
theorem dX6_alike_15 : decode cX6_alike 15 = .ok (.iconst 0, 1) := by decide +kernel
theorem dX6_alike_16 : decode cX6_alike 16 = .ok (.istore 8, 2) := by decide +kernel
theorem dX6_alike_18 : decode cX6_alike 18 = .ok (.iconst 0, 1) := by decide +kernel
theorem dX6_alike_19 : decode cX6_alike 19 = .ok (.istore 9, 2) := by decide +kernel
theorem dX6_alike_21 : decode cX6_alike 21 = .ok (.iload 9, 2) := by decide +kernel
theorem dX6_alike_23 : decode cX6_alike 23 = .ok (.iload_n 3, 1) := by decide +kernel
theorem dX6_alike_24 : decode cX6_alike 24 = .ok (.iload_n 2, 1) := by decide +kernel
theorem dX6_alike_25 : decode cX6_alike 25 = .ok (.isub, 1) := by decide +kernel
theorem dX6_alike_26 : decode cX6_alike 26 = .ok (.if_icmp .ge 42, 3) := by decide +kernel
theorem dX6_alike_29 : decode cX6_alike 29 = .ok (.iload 8, 2) := by decide +kernel
theorem dX6_alike_31 : decode cX6_alike 31 = .ok (.ifCond .eq 37, 3) := by decide +kernel
theorem dX6_alike_34 : decode cX6_alike 34 = .ok (.lload_n 0, 1) := by decide +kernel
theorem dX6_alike_35 : decode cX6_alike 35 = .ok (.iload_n 2, 1) := by decide +kernel
theorem dX6_alike_36 : decode cX6_alike 36 = .ok (.iload 9, 2) := by decide +kernel
theorem dX6_alike_38 : decode cX6_alike 38 = .ok (.iadd, 1) := by decide +kernel
theorem dX6_alike_39 : decode cX6_alike 39 = .ok (.invokestatic 84, 3) := by decide +kernel
theorem dX6_alike_42 : decode cX6_alike 42 = .ok (.lload 4, 2) := by decide +kernel
theorem dX6_alike_44 : decode cX6_alike 44 = .ok (.iload 6, 2) := by decide +kernel
theorem dX6_alike_46 : decode cX6_alike 46 = .ok (.iload 9, 2) := by decide +kernel
theorem dX6_alike_48 : decode cX6_alike 48 = .ok (.iadd, 1) := by decide +kernel
theorem dX6_alike_49 : decode cX6_alike 49 = .ok (.invokestatic 84, 3) := by decide +kernel
theorem dX6_alike_52 : decode cX6_alike 52 = .ok (.if_icmp .ne 7, 3) := by decide +kernel
theorem dX6_alike_55 : decode cX6_alike 55 = .ok (.iconst 1, 1) := by decide +kernel
theorem dX6_alike_56 : decode cX6_alike 56 = .ok (.goto 4, 3) := by decide +kernel
theorem dX6_alike_59 : decode cX6_alike 59 = .ok (.iconst 0, 1) := by decide +kernel
theorem dX6_alike_60 : decode cX6_alike 60 = .ok (.istore 8, 2) := by decide +kernel
theorem dX6_alike_62 : decode cX6_alike 62 = .ok (.iinc 9 1, 3) := by decide +kernel
theorem dX6_alike_65 : decode cX6_alike 65 = .ok (.goto (-44), 3) := by decide +kernel
theorem dX6_alike_68 : decode cX6_alike 68 = .ok (.iload 8, 2) := by decide +kernel
theorem dX6_alike_70 : decode cX6_alike 70 = .ok (.ireturn, 1) := by decide +kernel
theorem dX6_putAll_0 : decode cX6_putAll 0 = .ok (.iload_n 3, 1) := by decide +kernel
theorem dX6_putAll_1 : decode cX6_putAll 1 = .ok (.istore 5, 2) := by decide +kernel
theorem dX6_putAll_3 : decode cX6_putAll 3 = .ok (.iload 5, 2) := by decide +kernel
theorem dX6_putAll_5 : decode cX6_putAll 5 = .ok (.iload 4, 2) := by decide +kernel
theorem dX6_putAll_7 : decode cX6_putAll 7 = .ok (.if_icmp .ge 19, 3) := by decide +kernel
theorem dX6_putAll_10 : decode cX6_putAll 10 = .ok (.aload_n 0, 1) := by decide +kernel
theorem dX6_putAll_11 : decode cX6_putAll 11 = .ok (.lload_n 1, 1) := by decide +kernel
theorem dX6_putAll_12 : decode cX6_putAll 12 = .ok (.iload 5, 2) := by decide +kernel
theorem dX6_putAll_14 : decode cX6_putAll 14 = .ok (.invokestatic 84, 3) := by decide +kernel
theorem dX6_putAll_17 : decode cX6_putAll 17 = .ok (.invokevirtual 96, 3) := by decide +kernel
theorem dX6_putAll_20 : decode cX6_putAll 20 = .ok (.iinc 5 1, 3) := by decide +kernel
theorem dX6_putAll_23 : decode cX6_putAll 23 = .ok (.goto (-20), 3) := by decide +kernel
theorem dX6_putAll_26 : decode cX6_putAll 26 = .ok (.return_, 1) := by decide +kernel
theorem dX6_put_0 : decode cX6_put 0 = .ok (.aload_n 0, 1) := by decide +kernel
theorem dX6_put_1 : decode cX6_put 1 = .ok (.getfield 92, 3) := by decide +kernel
theorem dX6_put_4 : decode cX6_put 4 = .ok (.bipush 64, 2) := by decide +kernel
theorem dX6_put_6 : decode cX6_put 6 = .ok (.if_icmp .ge 13, 3) := by decide +kernel
theorem dX6_put_9 : decode cX6_put 9 = .ok (.aload_n 0, 1) := by decide +kernel
theorem dX6_put_10 : decode cX6_put 10 = .ok (.getfield 69, 3) := by decide +kernel
theorem dX6_put_13 : decode cX6_put 13 = .ok (.aload_n 0, 1) := by decide +kernel
theorem dX6_put_14 : decode cX6_put 14 = .ok (.getfield 92, 3) := by decide +kernel
theorem dX6_put_17 : decode cX6_put 17 = .ok (.iload_n 1, 1) := by decide +kernel
theorem dX6_put_18 : decode cX6_put 18 = .ok (.iastore, 1) := by decide +kernel
theorem dX6_put_19 : decode cX6_put 19 = .ok (.aload_n 0, 1) := by decide +kernel
theorem dX6_put_20 : decode cX6_put 20 = .ok (.dup, 1) := by decide +kernel
theorem dX6_put_21 : decode cX6_put 21 = .ok (.getfield 92, 3) := by decide +kernel
theorem dX6_put_24 : decode cX6_put 24 = .ok (.iconst 1, 1) := by decide +kernel
theorem dX6_put_25 : decode cX6_put 25 = .ok (.iadd, 1) := by decide +kernel
theorem dX6_put_26 : decode cX6_put 26 = .ok (.putfield 92, 3) := by decide +kernel
theorem dX6_put_29 : decode cX6_put 29 = .ok (.return_, 1) := by decide +kernel
theorem dX6_mergedText_0 : decode cX6_mergedText 0 = .ok (.lconst 0, 1) := by decide +kernel
theorem dX6_mergedText_1 : decode cX6_mergedText 1 = .ok (.lstore_n 1, 1) := by decide +kernel
theorem dX6_mergedText_2 : decode cX6_mergedText 2 = .ok (.iconst 0, 1) := by decide +kernel
theorem dX6_mergedText_3 : decode cX6_mergedText 3 = .ok (.istore_n 3, 1) := by decide +kernel
theorem dX6_mergedText_4 : decode cX6_mergedText 4 = .ok (.iload_n 3, 1) := by decide +kernel
theorem dX6_mergedText_5 : decode cX6_mergedText 5 = .ok (.aload_n 0, 1) := by decide +kernel
theorem dX6_mergedText_6 : decode cX6_mergedText 6 = .ok (.getfield 92, 3) := by decide +kernel
theorem dX6_mergedText_9 : decode cX6_mergedText 9 = .ok (.if_icmp .ge 23, 3) := by decide +kernel
theorem dX6_mergedText_12 : decode cX6_mergedText 12 = .ok (.ldc2_w 76, 3) := by decide +kernel
theorem dX6_mergedText_15 : decode cX6_mergedText 15 = .ok (.lload_n 1, 1) := by decide +kernel
theorem dX6_mergedText_16 : decode cX6_mergedText 16 = .ok (.lmul, 1) := by decide +kernel
theorem dX6_mergedText_17 : decode cX6_mergedText 17 = .ok (.aload_n 0, 1) := by decide +kernel
theorem dX6_mergedText_18 : decode cX6_mergedText 18 = .ok (.getfield 69, 3) := by decide +kernel
theorem dX6_mergedText_21 : decode cX6_mergedText 21 = .ok (.iload_n 3, 1) := by decide +kernel
theorem dX6_mergedText_22 : decode cX6_mergedText 22 = .ok (.iaload, 1) := by decide +kernel
theorem dX6_mergedText_23 : decode cX6_mergedText 23 = .ok (.i2l, 1) := by decide +kernel
theorem dX6_mergedText_24 : decode cX6_mergedText 24 = .ok (.ladd, 1) := by decide +kernel
theorem dX6_mergedText_25 : decode cX6_mergedText 25 = .ok (.lstore_n 1, 1) := by decide +kernel
theorem dX6_mergedText_26 : decode cX6_mergedText 26 = .ok (.iinc 3 1, 3) := by decide +kernel
theorem dX6_mergedText_29 : decode cX6_mergedText 29 = .ok (.goto (-25), 3) := by decide +kernel
theorem dX6_mergedText_32 : decode cX6_mergedText 32 = .ok (.lload_n 1, 1) := by decide +kernel
theorem dX6_mergedText_33 : decode cX6_mergedText 33 = .ok (.lreturn, 1) := by decide +kernel
theorem dX6_tag_0 : decode cX6_tag 0 = .ok (.iload_n 1, 1) := by decide +kernel
theorem dX6_tag_1 : decode cX6_tag 1 = .ok (.iload_n 2, 1) := by decide +kernel
theorem dX6_tag_2 : decode cX6_tag 2 = .ok (.invokestatic 120, 3) := by decide +kernel
theorem dX6_tag_5 : decode cX6_tag 5 = .ok (.ifCond .ne 24, 3) := by decide +kernel
theorem dX6_tag_8 : decode cX6_tag 8 = .ok (.iload_n 3, 1) := by decide +kernel
theorem dX6_tag_9 : decode cX6_tag 9 = .ok (.iconst 5, 1) := by decide +kernel
theorem dX6_tag_10 : decode cX6_tag 10 = .ok (.invokestatic 72, 3) := by decide +kernel
theorem dX6_tag_13 : decode cX6_tag 13 = .ok (.ifCond .eq 16, 3) := by decide +kernel
theorem dX6_tag_16 : decode cX6_tag 16 = .ok (.aload_n 0, 1) := by decide +kernel
theorem dX6_tag_17 : decode cX6_tag 17 = .ok (.getfield 48, 3) := by decide +kernel
theorem dX6_tag_20 : decode cX6_tag 20 = .ok (.iconst 4, 1) := by decide +kernel
theorem dX6_tag_21 : decode cX6_tag 21 = .ok (.iload_n 1, 1) := by decide +kernel
theorem dX6_tag_22 : decode cX6_tag 22 = .ok (.imul, 1) := by decide +kernel
theorem dX6_tag_23 : decode cX6_tag 23 = .ok (.iload_n 2, 1) := by decide +kernel
theorem dX6_tag_24 : decode cX6_tag 24 = .ok (.iadd, 1) := by decide +kernel
theorem dX6_tag_25 : decode cX6_tag 25 = .ok (.iaload, 1) := by decide +kernel
theorem dX6_tag_26 : decode cX6_tag 26 = .ok (.ifCond .ge 5, 3) := by decide +kernel
theorem dX6_tag_29 : decode cX6_tag 29 = .ok (.iconst 0, 1) := by decide +kernel
theorem dX6_tag_30 : decode cX6_tag 30 = .ok (.ireturn, 1) := by decide +kernel
theorem dX6_tag_31 : decode cX6_tag 31 = .ok (.iload 4, 2) := by decide +kernel
theorem dX6_tag_33 : decode cX6_tag 33 = .ok (.ifCond .eq 7, 3) := by decide +kernel
theorem dX6_tag_36 : decode cX6_tag 36 = .ok (.iconst 2, 1) := by decide +kernel
theorem dX6_tag_37 : decode cX6_tag 37 = .ok (.goto 4, 3) := by decide +kernel
theorem dX6_tag_40 : decode cX6_tag 40 = .ok (.iconst 1, 1) := by decide +kernel
theorem dX6_tag_41 : decode cX6_tag 41 = .ok (.istore 5, 2) := by decide +kernel
theorem dX6_tag_43 : decode cX6_tag 43 = .ok (.aload_n 0, 1) := by decide +kernel
theorem dX6_tag_44 : decode cX6_tag 44 = .ok (.getfield 45, 3) := by decide +kernel
theorem dX6_tag_47 : decode cX6_tag 47 = .ok (.iconst 5, 1) := by decide +kernel
theorem dX6_tag_48 : decode cX6_tag 48 = .ok (.iload_n 2, 1) := by decide +kernel
theorem dX6_tag_49 : decode cX6_tag 49 = .ok (.imul, 1) := by decide +kernel
theorem dX6_tag_50 : decode cX6_tag 50 = .ok (.iload_n 3, 1) := by decide +kernel
theorem dX6_tag_51 : decode cX6_tag 51 = .ok (.iadd, 1) := by decide +kernel
theorem dX6_tag_52 : decode cX6_tag 52 = .ok (.iaload, 1) := by decide +kernel
theorem dX6_tag_53 : decode cX6_tag 53 = .ok (.iconst (-1), 1) := by decide +kernel
theorem dX6_tag_54 : decode cX6_tag 54 = .ok (.if_icmp .eq 7, 3) := by decide +kernel
theorem dX6_tag_57 : decode cX6_tag 57 = .ok (.iconst 1, 1) := by decide +kernel
theorem dX6_tag_58 : decode cX6_tag 58 = .ok (.goto 4, 3) := by decide +kernel
theorem dX6_tag_61 : decode cX6_tag 61 = .ok (.iconst 0, 1) := by decide +kernel
theorem dX6_tag_62 : decode cX6_tag 62 = .ok (.istore 6, 2) := by decide +kernel
theorem dX6_tag_64 : decode cX6_tag 64 = .ok (.aload_n 0, 1) := by decide +kernel
theorem dX6_tag_65 : decode cX6_tag 65 = .ok (.getfield 42, 3) := by decide +kernel
theorem dX6_tag_68 : decode cX6_tag 68 = .ok (.iload_n 3, 1) := by decide +kernel
theorem dX6_tag_69 : decode cX6_tag 69 = .ok (.iaload, 1) := by decide +kernel
theorem dX6_tag_70 : decode cX6_tag 70 = .ok (.ifCond .eq 14, 3) := by decide +kernel
theorem dX6_tag_73 : decode cX6_tag 73 = .ok (.aload_n 0, 1) := by decide +kernel
theorem dX6_tag_74 : decode cX6_tag 74 = .ok (.getfield 42, 3) := by decide +kernel
theorem dX6_tag_77 : decode cX6_tag 77 = .ok (.iload_n 3, 1) := by decide +kernel
theorem dX6_tag_78 : decode cX6_tag 78 = .ok (.iaload, 1) := by decide +kernel
theorem dX6_tag_79 : decode cX6_tag 79 = .ok (.iload 5, 2) := by decide +kernel
theorem dX6_tag_81 : decode cX6_tag 81 = .ok (.if_icmp .ne 23, 3) := by decide +kernel
theorem dX6_tag_84 : decode cX6_tag 84 = .ok (.iload 4, 2) := by decide +kernel
theorem dX6_tag_86 : decode cX6_tag 86 = .ok (.ifCond .eq 20, 3) := by decide +kernel
theorem dX6_tag_89 : decode cX6_tag 89 = .ok (.iload 6, 2) := by decide +kernel
theorem dX6_tag_91 : decode cX6_tag 91 = .ok (.ifCond .ne 13, 3) := by decide +kernel
theorem dX6_tag_94 : decode cX6_tag 94 = .ok (.aload_n 0, 1) := by decide +kernel
theorem dX6_tag_95 : decode cX6_tag 95 = .ok (.getfield 27, 3) := by decide +kernel
theorem dX6_tag_98 : decode cX6_tag 98 = .ok (.iload_n 2, 1) := by decide +kernel
theorem dX6_tag_99 : decode cX6_tag 99 = .ok (.iaload, 1) := by decide +kernel
theorem dX6_tag_100 : decode cX6_tag 100 = .ok (.iconst 5, 1) := by decide +kernel
theorem dX6_tag_101 : decode cX6_tag 101 = .ok (.if_icmp .ne 5, 3) := by decide +kernel
theorem dX6_tag_104 : decode cX6_tag 104 = .ok (.iconst 0, 1) := by decide +kernel
theorem dX6_tag_105 : decode cX6_tag 105 = .ok (.ireturn, 1) := by decide +kernel
theorem dX6_tag_106 : decode cX6_tag 106 = .ok (.aload_n 0, 1) := by decide +kernel
theorem dX6_tag_107 : decode cX6_tag 107 = .ok (.getfield 48, 3) := by decide +kernel
theorem dX6_tag_110 : decode cX6_tag 110 = .ok (.iconst 4, 1) := by decide +kernel
theorem dX6_tag_111 : decode cX6_tag 111 = .ok (.iload_n 1, 1) := by decide +kernel
theorem dX6_tag_112 : decode cX6_tag 112 = .ok (.imul, 1) := by decide +kernel
theorem dX6_tag_113 : decode cX6_tag 113 = .ok (.iload_n 2, 1) := by decide +kernel
theorem dX6_tag_114 : decode cX6_tag 114 = .ok (.iadd, 1) := by decide +kernel
theorem dX6_tag_115 : decode cX6_tag 115 = .ok (.iaload, 1) := by decide +kernel
theorem dX6_tag_116 : decode cX6_tag 116 = .ok (.istore 7, 2) := by decide +kernel
theorem dX6_tag_118 : decode cX6_tag 118 = .ok (.aload_n 0, 1) := by decide +kernel
theorem dX6_tag_119 : decode cX6_tag 119 = .ok (.getfield 42, 3) := by decide +kernel
theorem dX6_tag_122 : decode cX6_tag 122 = .ok (.iload_n 3, 1) := by decide +kernel
theorem dX6_tag_123 : decode cX6_tag 123 = .ok (.iload 5, 2) := by decide +kernel
theorem dX6_tag_125 : decode cX6_tag 125 = .ok (.iastore, 1) := by decide +kernel
theorem dX6_tag_126 : decode cX6_tag 126 = .ok (.aload_n 0, 1) := by decide +kernel
theorem dX6_tag_127 : decode cX6_tag 127 = .ok (.getfield 45, 3) := by decide +kernel
theorem dX6_tag_130 : decode cX6_tag 130 = .ok (.iconst 5, 1) := by decide +kernel
theorem dX6_tag_131 : decode cX6_tag 131 = .ok (.iload_n 2, 1) := by decide +kernel
theorem dX6_tag_132 : decode cX6_tag 132 = .ok (.imul, 1) := by decide +kernel
theorem dX6_tag_133 : decode cX6_tag 133 = .ok (.iload_n 3, 1) := by decide +kernel
theorem dX6_tag_134 : decode cX6_tag 134 = .ok (.iadd, 1) := by decide +kernel
theorem dX6_tag_135 : decode cX6_tag 135 = .ok (.iload 4, 2) := by decide +kernel
theorem dX6_tag_137 : decode cX6_tag 137 = .ok (.ifCond .eq 20, 3) := by decide +kernel
theorem dX6_tag_140 : decode cX6_tag 140 = .ok (.aload_n 0, 1) := by decide +kernel
theorem dX6_tag_141 : decode cX6_tag 141 = .ok (.iload_n 2, 1) := by decide +kernel
theorem dX6_tag_142 : decode cX6_tag 142 = .ok (.iload 7, 2) := by decide +kernel
theorem dX6_tag_144 : decode cX6_tag 144 = .ok (.aload_n 0, 1) := by decide +kernel
theorem dX6_tag_145 : decode cX6_tag 145 = .ok (.iload_n 2, 1) := by decide +kernel
theorem dX6_tag_146 : decode cX6_tag 146 = .ok (.iload 7, 2) := by decide +kernel
theorem dX6_tag_148 : decode cX6_tag 148 = .ok (.invokevirtual 150, 3) := by decide +kernel
theorem dX6_tag_151 : decode cX6_tag 151 = .ok (.invokevirtual 153, 3) := by decide +kernel
theorem dX6_tag_154 : decode cX6_tag 154 = .ok (.goto 5, 3) := by decide +kernel
theorem dX6_tag_157 : decode cX6_tag 157 = .ok (.iload 7, 2) := by decide +kernel
theorem dX6_tag_159 : decode cX6_tag 159 = .ok (.iastore, 1) := by decide +kernel
theorem dX6_tag_160 : decode cX6_tag 160 = .ok (.iconst 1, 1) := by decide +kernel
theorem dX6_tag_161 : decode cX6_tag 161 = .ok (.ireturn, 1) := by decide +kernel
theorem dX6_bring_0 : decode cX6_bring 0 = .ok (.iload_n 1, 1) := by decide +kernel
theorem dX6_bring_1 : decode cX6_bring 1 = .ok (.iconst 4, 1) := by decide +kernel
theorem dX6_bring_2 : decode cX6_bring 2 = .ok (.invokestatic 72, 3) := by decide +kernel
theorem dX6_bring_5 : decode cX6_bring 5 = .ok (.ifCond .eq 17, 3) := by decide +kernel
theorem dX6_bring_8 : decode cX6_bring 8 = .ok (.lload_n 2, 1) := by decide +kernel
theorem dX6_bring_9 : decode cX6_bring 9 = .ok (.invokestatic 123, 3) := by decide +kernel
theorem dX6_bring_12 : decode cX6_bring 12 = .ok (.ifCond .ne 10, 3) := by decide +kernel
theorem dX6_bring_15 : decode cX6_bring 15 = .ok (.lload_n 2, 1) := by decide +kernel
theorem dX6_bring_16 : decode cX6_bring 16 = .ok (.invokestatic 127, 3) := by decide +kernel
theorem dX6_bring_19 : decode cX6_bring 19 = .ok (.ifCond .eq 5, 3) := by decide +kernel
theorem dX6_bring_22 : decode cX6_bring 22 = .ok (.iconst (-1), 1) := by decide +kernel
theorem dX6_bring_23 : decode cX6_bring 23 = .ok (.ireturn, 1) := by decide +kernel
theorem dX6_bring_24 : decode cX6_bring 24 = .ok (.aload_n 0, 1) := by decide +kernel
theorem dX6_bring_25 : decode cX6_bring 25 = .ok (.getfield 7, 3) := by decide +kernel
theorem dX6_bring_28 : decode cX6_bring 28 = .ok (.iload_n 1, 1) := by decide +kernel
theorem dX6_bring_29 : decode cX6_bring 29 = .ok (.iaload, 1) := by decide +kernel
theorem dX6_bring_30 : decode cX6_bring 30 = .ok (.ifCond .ne 7, 3) := by decide +kernel
theorem dX6_bring_33 : decode cX6_bring 33 = .ok (.iconst 1, 1) := by decide +kernel
theorem dX6_bring_34 : decode cX6_bring 34 = .ok (.goto 4, 3) := by decide +kernel
theorem dX6_bring_37 : decode cX6_bring 37 = .ok (.iconst 0, 1) := by decide +kernel
theorem dX6_bring_38 : decode cX6_bring 38 = .ok (.istore 4, 2) := by decide +kernel
theorem dX6_bring_40 : decode cX6_bring 40 = .ok (.aload_n 0, 1) := by decide +kernel
theorem dX6_bring_41 : decode cX6_bring 41 = .ok (.getfield 7, 3) := by decide +kernel
theorem dX6_bring_44 : decode cX6_bring 44 = .ok (.iload_n 1, 1) := by decide +kernel
theorem dX6_bring_45 : decode cX6_bring 45 = .ok (.iaload, 1) := by decide +kernel
theorem dX6_bring_46 : decode cX6_bring 46 = .ok (.iconst 1, 1) := by decide +kernel
theorem dX6_bring_47 : decode cX6_bring 47 = .ok (.iadd, 1) := by decide +kernel
theorem dX6_bring_48 : decode cX6_bring 48 = .ok (.bipush 24, 2) := by decide +kernel
theorem dX6_bring_50 : decode cX6_bring 50 = .ok (.if_icmp .gt 22, 3) := by decide +kernel
theorem dX6_bring_53 : decode cX6_bring 53 = .ok (.aload_n 0, 1) := by decide +kernel
theorem dX6_bring_54 : decode cX6_bring 54 = .ok (.getfield 36, 3) := by decide +kernel
theorem dX6_bring_57 : decode cX6_bring 57 = .ok (.iload_n 1, 1) := by decide +kernel
theorem dX6_bring_58 : decode cX6_bring 58 = .ok (.iaload, 1) := by decide +kernel
theorem dX6_bring_59 : decode cX6_bring 59 = .ok (.ifCond .ge 16, 3) := by decide +kernel
theorem dX6_bring_62 : decode cX6_bring 62 = .ok (.aload_n 0, 1) := by decide +kernel
theorem dX6_bring_63 : decode cX6_bring 63 = .ok (.getfield 27, 3) := by decide +kernel
theorem dX6_bring_66 : decode cX6_bring 66 = .ok (.iload_n 1, 1) := by decide +kernel
theorem dX6_bring_67 : decode cX6_bring 67 = .ok (.iaload, 1) := by decide +kernel
theorem dX6_bring_68 : decode cX6_bring 68 = .ok (.iconst 5, 1) := by decide +kernel
theorem dX6_bring_69 : decode cX6_bring 69 = .ok (.if_icmp .ne 6, 3) := by decide +kernel
theorem dX6_bring_72 : decode cX6_bring 72 = .ok (.bipush (-7), 2) := by decide +kernel
theorem dX6_bring_74 : decode cX6_bring 74 = .ok (.ireturn, 1) := by decide +kernel
theorem dX6_bring_75 : decode cX6_bring 75 = .ok (.iload 4, 2) := by decide +kernel
theorem dX6_bring_77 : decode cX6_bring 77 = .ok (.ifCond .eq 12, 3) := by decide +kernel
theorem dX6_bring_80 : decode cX6_bring 80 = .ok (.aload_n 0, 1) := by decide +kernel
theorem dX6_bring_81 : decode cX6_bring 81 = .ok (.iload_n 1, 1) := by decide +kernel
theorem dX6_bring_82 : decode cX6_bring 82 = .ok (.iconst 0, 1) := by decide +kernel
theorem dX6_bring_83 : decode cX6_bring 83 = .ok (.lload_n 2, 1) := by decide +kernel
theorem dX6_bring_84 : decode cX6_bring 84 = .ok (.iconst 0, 1) := by decide +kernel
theorem dX6_bring_85 : decode cX6_bring 85 = .ok (.invokevirtual 146, 3) := by decide +kernel
theorem dX6_bring_88 : decode cX6_bring 88 = .ok (.pop, 1) := by decide +kernel
theorem dX6_bring_89 : decode cX6_bring 89 = .ok (.aload_n 0, 1) := by decide +kernel
theorem dX6_bring_90 : decode cX6_bring 90 = .ok (.getfield 36, 3) := by decide +kernel
theorem dX6_bring_93 : decode cX6_bring 93 = .ok (.iload_n 1, 1) := by decide +kernel
theorem dX6_bring_94 : decode cX6_bring 94 = .ok (.iaload, 1) := by decide +kernel
theorem dX6_bring_95 : decode cX6_bring 95 = .ok (.ifCond .ge 20, 3) := by decide +kernel
theorem dX6_bring_98 : decode cX6_bring 98 = .ok (.aload_n 0, 1) := by decide +kernel
theorem dX6_bring_99 : decode cX6_bring 99 = .ok (.getfield 36, 3) := by decide +kernel
theorem dX6_bring_102 : decode cX6_bring 102 = .ok (.iload_n 1, 1) := by decide +kernel
theorem dX6_bring_103 : decode cX6_bring 103 = .ok (.aload_n 0, 1) := by decide +kernel
theorem dX6_bring_104 : decode cX6_bring 104 = .ok (.iload_n 1, 1) := by decide +kernel
theorem dX6_bring_105 : decode cX6_bring 105 = .ok (.aload_n 0, 1) := by decide +kernel
theorem dX6_bring_106 : decode cX6_bring 106 = .ok (.iload_n 1, 1) := by decide +kernel
theorem dX6_bring_107 : decode cX6_bring 107 = .ok (.invokevirtual 172, 3) := by decide +kernel
theorem dX6_bring_110 : decode cX6_bring 110 = .ok (.iconst 1, 1) := by decide +kernel
theorem dX6_bring_111 : decode cX6_bring 111 = .ok (.invokevirtual 153, 3) := by decide +kernel
theorem dX6_bring_114 : decode cX6_bring 114 = .ok (.iastore, 1) := by decide +kernel
theorem dX6_bring_115 : decode cX6_bring 115 = .ok (.iload 4, 2) := by decide +kernel
theorem dX6_bring_117 : decode cX6_bring 117 = .ok (.ifCond .eq 15, 3) := by decide +kernel
theorem dX6_bring_120 : decode cX6_bring 120 = .ok (.aload_n 0, 1) := by decide +kernel
theorem dX6_bring_121 : decode cX6_bring 121 = .ok (.getfield 39, 3) := by decide +kernel
theorem dX6_bring_124 : decode cX6_bring 124 = .ok (.iload_n 1, 1) := by decide +kernel
theorem dX6_bring_125 : decode cX6_bring 125 = .ok (.aload_n 0, 1) := by decide +kernel
theorem dX6_bring_126 : decode cX6_bring 126 = .ok (.getfield 36, 3) := by decide +kernel
theorem dX6_bring_129 : decode cX6_bring 129 = .ok (.iload_n 1, 1) := by decide +kernel
theorem dX6_bring_130 : decode cX6_bring 130 = .ok (.iaload, 1) := by decide +kernel
theorem dX6_bring_131 : decode cX6_bring 131 = .ok (.iastore, 1) := by decide +kernel
theorem dX6_bring_132 : decode cX6_bring 132 = .ok (.aload_n 0, 1) := by decide +kernel
theorem dX6_bring_133 : decode cX6_bring 133 = .ok (.iload_n 1, 1) := by decide +kernel
theorem dX6_bring_134 : decode cX6_bring 134 = .ok (.aload_n 0, 1) := by decide +kernel
theorem dX6_bring_135 : decode cX6_bring 135 = .ok (.getfield 36, 3) := by decide +kernel
theorem dX6_bring_138 : decode cX6_bring 138 = .ok (.iload_n 1, 1) := by decide +kernel
theorem dX6_bring_139 : decode cX6_bring 139 = .ok (.iaload, 1) := by decide +kernel
theorem dX6_bring_140 : decode cX6_bring 140 = .ok (.lload_n 2, 1) := by decide +kernel
theorem dX6_bring_141 : decode cX6_bring 141 = .ok (.iconst 0, 1) := by decide +kernel
theorem dX6_bring_142 : decode cX6_bring 142 = .ok (.invokevirtual 146, 3) := by decide +kernel
theorem dX6_bring_145 : decode cX6_bring 145 = .ok (.ireturn, 1) := by decide +kernel
theorem dX6_firstOfTrunk_0 : decode cX6_firstOfTrunk 0 = .ok (.iconst 0, 1) := by decide +kernel
theorem dX6_firstOfTrunk_1 : decode cX6_firstOfTrunk 1 = .ok (.istore_n 2, 1) := by decide +kernel
theorem dX6_firstOfTrunk_2 : decode cX6_firstOfTrunk 2 = .ok (.iload_n 2, 1) := by decide +kernel
theorem dX6_firstOfTrunk_3 : decode cX6_firstOfTrunk 3 = .ok (.aload_n 0, 1) := by decide +kernel
theorem dX6_firstOfTrunk_4 : decode cX6_firstOfTrunk 4 = .ok (.getfield 7, 3) := by decide +kernel
theorem dX6_firstOfTrunk_7 : decode cX6_firstOfTrunk 7 = .ok (.iload_n 1, 1) := by decide +kernel
theorem dX6_firstOfTrunk_8 : decode cX6_firstOfTrunk 8 = .ok (.iaload, 1) := by decide +kernel
theorem dX6_firstOfTrunk_9 : decode cX6_firstOfTrunk 9 = .ok (.if_icmp .ge 25, 3) := by decide +kernel
theorem dX6_firstOfTrunk_12 : decode cX6_firstOfTrunk 12 = .ok (.aload_n 0, 1) := by decide +kernel
theorem dX6_firstOfTrunk_13 : decode cX6_firstOfTrunk 13 = .ok (.getfield 21, 3) := by decide +kernel
theorem dX6_firstOfTrunk_16 : decode cX6_firstOfTrunk 16 = .ok (.bipush 24, 2) := by decide +kernel
theorem dX6_firstOfTrunk_18 : decode cX6_firstOfTrunk 18 = .ok (.iload_n 1, 1) := by decide +kernel
theorem dX6_firstOfTrunk_19 : decode cX6_firstOfTrunk 19 = .ok (.imul, 1) := by decide +kernel
theorem dX6_firstOfTrunk_20 : decode cX6_firstOfTrunk 20 = .ok (.iload_n 2, 1) := by decide +kernel
theorem dX6_firstOfTrunk_21 : decode cX6_firstOfTrunk 21 = .ok (.iadd, 1) := by decide +kernel
theorem dX6_firstOfTrunk_22 : decode cX6_firstOfTrunk 22 = .ok (.iaload, 1) := by decide +kernel
theorem dX6_firstOfTrunk_23 : decode cX6_firstOfTrunk 23 = .ok (.ifCond .ne 5, 3) := by decide +kernel
theorem dX6_firstOfTrunk_26 : decode cX6_firstOfTrunk 26 = .ok (.iload_n 2, 1) := by decide +kernel
theorem dX6_firstOfTrunk_27 : decode cX6_firstOfTrunk 27 = .ok (.ireturn, 1) := by decide +kernel
theorem dX6_firstOfTrunk_28 : decode cX6_firstOfTrunk 28 = .ok (.iinc 2 1, 3) := by decide +kernel
theorem dX6_firstOfTrunk_31 : decode cX6_firstOfTrunk 31 = .ok (.goto (-29), 3) := by decide +kernel
theorem dX6_firstOfTrunk_34 : decode cX6_firstOfTrunk 34 = .ok (.iconst (-1), 1) := by decide +kernel
theorem dX6_firstOfTrunk_35 : decode cX6_firstOfTrunk 35 = .ok (.ireturn, 1) := by decide +kernel
theorem dX6_entry_0 : decode cX6_entry 0 = .ok (.iload_n 1, 1) := by decide +kernel
theorem dX6_entry_1 : decode cX6_entry 1 = .ok (.iload_n 2, 1) := by decide +kernel
theorem dX6_entry_2 : decode cX6_entry 2 = .ok (.invokestatic 120, 3) := by decide +kernel
theorem dX6_entry_5 : decode cX6_entry 5 = .ok (.ifCond .eq 7, 3) := by decide +kernel
theorem dX6_entry_8 : decode cX6_entry 8 = .ok (.iconst (-1), 1) := by decide +kernel
theorem dX6_entry_9 : decode cX6_entry 9 = .ok (.goto 13, 3) := by decide +kernel
theorem dX6_entry_12 : decode cX6_entry 12 = .ok (.aload_n 0, 1) := by decide +kernel
theorem dX6_entry_13 : decode cX6_entry 13 = .ok (.getfield 48, 3) := by decide +kernel
theorem dX6_entry_16 : decode cX6_entry 16 = .ok (.iconst 4, 1) := by decide +kernel
theorem dX6_entry_17 : decode cX6_entry 17 = .ok (.iload_n 1, 1) := by decide +kernel
theorem dX6_entry_18 : decode cX6_entry 18 = .ok (.imul, 1) := by decide +kernel
theorem dX6_entry_19 : decode cX6_entry 19 = .ok (.iload_n 2, 1) := by decide +kernel
theorem dX6_entry_20 : decode cX6_entry 20 = .ok (.iadd, 1) := by decide +kernel
theorem dX6_entry_21 : decode cX6_entry 21 = .ok (.iaload, 1) := by decide +kernel
theorem dX6_entry_22 : decode cX6_entry 22 = .ok (.ireturn, 1) := by decide +kernel
theorem dX6_removed_0 : decode cX6_removed 0 = .ok (.iload_n 1, 1) := by decide +kernel
theorem dX6_removed_1 : decode cX6_removed 1 = .ok (.iload_n 2, 1) := by decide +kernel
theorem dX6_removed_2 : decode cX6_removed 2 = .ok (.invokestatic 120, 3) := by decide +kernel
theorem dX6_removed_5 : decode cX6_removed 5 = .ok (.ifCond .ne 33, 3) := by decide +kernel
theorem dX6_removed_8 : decode cX6_removed 8 = .ok (.aload_n 0, 1) := by decide +kernel
theorem dX6_removed_9 : decode cX6_removed 9 = .ok (.getfield 48, 3) := by decide +kernel
theorem dX6_removed_12 : decode cX6_removed 12 = .ok (.iconst 4, 1) := by decide +kernel
theorem dX6_removed_13 : decode cX6_removed 13 = .ok (.iload_n 1, 1) := by decide +kernel
theorem dX6_removed_14 : decode cX6_removed 14 = .ok (.imul, 1) := by decide +kernel
theorem dX6_removed_15 : decode cX6_removed 15 = .ok (.iload_n 2, 1) := by decide +kernel
theorem dX6_removed_16 : decode cX6_removed 16 = .ok (.iadd, 1) := by decide +kernel
theorem dX6_removed_17 : decode cX6_removed 17 = .ok (.iaload, 1) := by decide +kernel
theorem dX6_removed_18 : decode cX6_removed 18 = .ok (.ifCond .lt 20, 3) := by decide +kernel
theorem dX6_removed_21 : decode cX6_removed 21 = .ok (.aload_n 0, 1) := by decide +kernel
theorem dX6_removed_22 : decode cX6_removed 22 = .ok (.getfield 51, 3) := by decide +kernel
theorem dX6_removed_25 : decode cX6_removed 25 = .ok (.iconst 4, 1) := by decide +kernel
theorem dX6_removed_26 : decode cX6_removed 26 = .ok (.iload_n 1, 1) := by decide +kernel
theorem dX6_removed_27 : decode cX6_removed 27 = .ok (.imul, 1) := by decide +kernel
theorem dX6_removed_28 : decode cX6_removed 28 = .ok (.iload_n 2, 1) := by decide +kernel
theorem dX6_removed_29 : decode cX6_removed 29 = .ok (.iadd, 1) := by decide +kernel
theorem dX6_removed_30 : decode cX6_removed 30 = .ok (.baload, 1) := by decide +kernel
theorem dX6_removed_31 : decode cX6_removed 31 = .ok (.ifCond .eq 7, 3) := by decide +kernel
theorem dX6_removed_34 : decode cX6_removed 34 = .ok (.iconst 1, 1) := by decide +kernel
theorem dX6_removed_35 : decode cX6_removed 35 = .ok (.goto 4, 3) := by decide +kernel
theorem dX6_removed_38 : decode cX6_removed 38 = .ok (.iconst 0, 1) := by decide +kernel
theorem dX6_removed_39 : decode cX6_removed 39 = .ok (.ireturn, 1) := by decide +kernel
theorem dX6_local_0 : decode cX6_local 0 = .ok (.iload_n 1, 1) := by decide +kernel
theorem dX6_local_1 : decode cX6_local 1 = .ok (.iload_n 2, 1) := by decide +kernel
theorem dX6_local_2 : decode cX6_local 2 = .ok (.invokestatic 120, 3) := by decide +kernel
theorem dX6_local_5 : decode cX6_local 5 = .ok (.ifCond .ne 15, 3) := by decide +kernel
theorem dX6_local_8 : decode cX6_local 8 = .ok (.aload_n 0, 1) := by decide +kernel
theorem dX6_local_9 : decode cX6_local 9 = .ok (.iconst 4, 1) := by decide +kernel
theorem dX6_local_10 : decode cX6_local 10 = .ok (.iload_n 1, 1) := by decide +kernel
theorem dX6_local_11 : decode cX6_local 11 = .ok (.imul, 1) := by decide +kernel
theorem dX6_local_12 : decode cX6_local 12 = .ok (.iload_n 2, 1) := by decide +kernel
theorem dX6_local_13 : decode cX6_local 13 = .ok (.iadd, 1) := by decide +kernel
theorem dX6_local_14 : decode cX6_local 14 = .ok (.invokevirtual 130, 3) := by decide +kernel
theorem dX6_local_17 : decode cX6_local 17 = .ok (.ifCond .ne 9, 3) := by decide +kernel
theorem dX6_local_20 : decode cX6_local 20 = .ok (.ldc2_w 176, 3) := by decide +kernel
theorem dX6_local_23 : decode cX6_local 23 = .ok (.goto 13, 3) := by decide +kernel
theorem dX6_local_26 : decode cX6_local 26 = .ok (.aload_n 0, 1) := by decide +kernel
theorem dX6_local_27 : decode cX6_local 27 = .ok (.getfield 54, 3) := by decide +kernel
theorem dX6_local_30 : decode cX6_local 30 = .ok (.iconst 4, 1) := by decide +kernel
theorem dX6_local_31 : decode cX6_local 31 = .ok (.iload_n 1, 1) := by decide +kernel
theorem dX6_local_32 : decode cX6_local 32 = .ok (.imul, 1) := by decide +kernel
theorem dX6_local_33 : decode cX6_local 33 = .ok (.iload_n 2, 1) := by decide +kernel
theorem dX6_local_34 : decode cX6_local 34 = .ok (.iadd, 1) := by decide +kernel
theorem dX6_local_35 : decode cX6_local 35 = .ok (.laload, 1) := by decide +kernel
theorem dX6_local_36 : decode cX6_local 36 = .ok (.lreturn, 1) := by decide +kernel
theorem dX6_selected_0 : decode cX6_selected 0 = .ok (.iload_n 1, 1) := by decide +kernel
theorem dX6_selected_1 : decode cX6_selected 1 = .ok (.iload_n 2, 1) := by decide +kernel
theorem dX6_selected_2 : decode cX6_selected 2 = .ok (.invokestatic 120, 3) := by decide +kernel
theorem dX6_selected_5 : decode cX6_selected 5 = .ok (.ifCond .eq 7, 3) := by decide +kernel
theorem dX6_selected_8 : decode cX6_selected 8 = .ok (.iconst (-1), 1) := by decide +kernel
theorem dX6_selected_9 : decode cX6_selected 9 = .ok (.goto 18, 3) := by decide +kernel
theorem dX6_selected_12 : decode cX6_selected 12 = .ok (.aload_n 0, 1) := by decide +kernel
theorem dX6_selected_13 : decode cX6_selected 13 = .ok (.iload_n 2, 1) := by decide +kernel
theorem dX6_selected_14 : decode cX6_selected 14 = .ok (.aload_n 0, 1) := by decide +kernel
theorem dX6_selected_15 : decode cX6_selected 15 = .ok (.getfield 57, 3) := by decide +kernel
theorem dX6_selected_18 : decode cX6_selected 18 = .ok (.iconst 4, 1) := by decide +kernel
theorem dX6_selected_19 : decode cX6_selected 19 = .ok (.iload_n 1, 1) := by decide +kernel
theorem dX6_selected_20 : decode cX6_selected 20 = .ok (.imul, 1) := by decide +kernel
theorem dX6_selected_21 : decode cX6_selected 21 = .ok (.iload_n 2, 1) := by decide +kernel
theorem dX6_selected_22 : decode cX6_selected 22 = .ok (.iadd, 1) := by decide +kernel
theorem dX6_selected_23 : decode cX6_selected 23 = .ok (.iaload, 1) := by decide +kernel
theorem dX6_selected_24 : decode cX6_selected 24 = .ok (.invokevirtual 134, 3) := by decide +kernel
theorem dX6_selected_27 : decode cX6_selected 27 = .ok (.ireturn, 1) := by decide +kernel
theorem dX6_sticky_0 : decode cX6_sticky 0 = .ok (.iload_n 1, 1) := by decide +kernel
theorem dX6_sticky_1 : decode cX6_sticky 1 = .ok (.iload_n 2, 1) := by decide +kernel
theorem dX6_sticky_2 : decode cX6_sticky 2 = .ok (.invokestatic 120, 3) := by decide +kernel
theorem dX6_sticky_5 : decode cX6_sticky 5 = .ok (.ifCond .eq 7, 3) := by decide +kernel
theorem dX6_sticky_8 : decode cX6_sticky 8 = .ok (.iconst (-1), 1) := by decide +kernel
theorem dX6_sticky_9 : decode cX6_sticky 9 = .ok (.goto 13, 3) := by decide +kernel
theorem dX6_sticky_12 : decode cX6_sticky 12 = .ok (.aload_n 0, 1) := by decide +kernel
theorem dX6_sticky_13 : decode cX6_sticky 13 = .ok (.getfield 57, 3) := by decide +kernel
theorem dX6_sticky_16 : decode cX6_sticky 16 = .ok (.iconst 4, 1) := by decide +kernel
theorem dX6_sticky_17 : decode cX6_sticky 17 = .ok (.iload_n 1, 1) := by decide +kernel
theorem dX6_sticky_18 : decode cX6_sticky 18 = .ok (.imul, 1) := by decide +kernel
theorem dX6_sticky_19 : decode cX6_sticky 19 = .ok (.iload_n 2, 1) := by decide +kernel
theorem dX6_sticky_20 : decode cX6_sticky 20 = .ok (.iadd, 1) := by decide +kernel
theorem dX6_sticky_21 : decode cX6_sticky 21 = .ok (.iaload, 1) := by decide +kernel
theorem dX6_sticky_22 : decode cX6_sticky 22 = .ok (.ireturn, 1) := by decide +kernel
theorem dX6_revisions_0 : decode cX6_revisions 0 = .ok (.iload_n 1, 1) := by decide +kernel
theorem dX6_revisions_1 : decode cX6_revisions 1 = .ok (.iconst 4, 1) := by decide +kernel
theorem dX6_revisions_2 : decode cX6_revisions 2 = .ok (.invokestatic 72, 3) := by decide +kernel
theorem dX6_revisions_5 : decode cX6_revisions 5 = .ok (.ifCond .eq 12, 3) := by decide +kernel
theorem dX6_revisions_8 : decode cX6_revisions 8 = .ok (.aload_n 0, 1) := by decide +kernel
theorem dX6_revisions_9 : decode cX6_revisions 9 = .ok (.getfield 7, 3) := by decide +kernel
theorem dX6_revisions_12 : decode cX6_revisions 12 = .ok (.iload_n 1, 1) := by decide +kernel
theorem dX6_revisions_13 : decode cX6_revisions 13 = .ok (.iaload, 1) := by decide +kernel
theorem dX6_revisions_14 : decode cX6_revisions 14 = .ok (.goto 4, 3) := by decide +kernel
theorem dX6_revisions_17 : decode cX6_revisions 17 = .ok (.iconst (-1), 1) := by decide +kernel
theorem dX6_revisions_18 : decode cX6_revisions 18 = .ok (.ireturn, 1) := by decide +kernel
theorem dX6_number_0 : decode cX6_number 0 = .ok (.aload_n 0, 1) := by decide +kernel
theorem dX6_number_1 : decode cX6_number 1 = .ok (.iload_n 1, 1) := by decide +kernel
theorem dX6_number_2 : decode cX6_number 2 = .ok (.iload_n 2, 1) := by decide +kernel
theorem dX6_number_3 : decode cX6_number 3 = .ok (.invokevirtual 178, 3) := by decide +kernel
theorem dX6_number_6 : decode cX6_number 6 = .ok (.ifCond .ne 7, 3) := by decide +kernel
theorem dX6_number_9 : decode cX6_number 9 = .ok (.iload_n 3, 1) := by decide +kernel
theorem dX6_number_10 : decode cX6_number 10 = .ok (.ifCond .ge 5, 3) := by decide +kernel
theorem dX6_number_13 : decode cX6_number 13 = .ok (.iconst (-1), 1) := by decide +kernel
theorem dX6_number_14 : decode cX6_number 14 = .ok (.ireturn, 1) := by decide +kernel
theorem dX6_number_15 : decode cX6_number 15 = .ok (.aload_n 0, 1) := by decide +kernel
theorem dX6_number_16 : decode cX6_number 16 = .ok (.iload_n 1, 1) := by decide +kernel
theorem dX6_number_17 : decode cX6_number 17 = .ok (.iload_n 2, 1) := by decide +kernel
theorem dX6_number_18 : decode cX6_number 18 = .ok (.invokevirtual 181, 3) := by decide +kernel
theorem dX6_number_21 : decode cX6_number 21 = .ok (.istore 4, 2) := by decide +kernel
theorem dX6_number_23 : decode cX6_number 23 = .ok (.iload_n 3, 1) := by decide +kernel
theorem dX6_number_24 : decode cX6_number 24 = .ok (.iload 4, 2) := by decide +kernel
theorem dX6_number_26 : decode cX6_number 26 = .ok (.if_icmp .lt 5, 3) := by decide +kernel
theorem dX6_number_29 : decode cX6_number 29 = .ok (.iconst 0, 1) := by decide +kernel
theorem dX6_number_30 : decode cX6_number 30 = .ok (.ireturn, 1) := by decide +kernel
theorem dX6_number_31 : decode cX6_number 31 = .ok (.iload_n 2, 1) := by decide +kernel
theorem dX6_number_32 : decode cX6_number 32 = .ok (.istore 5, 2) := by decide +kernel
theorem dX6_number_34 : decode cX6_number 34 = .ok (.iload 4, 2) := by decide +kernel
theorem dX6_number_36 : decode cX6_number 36 = .ok (.iconst 2, 1) := by decide +kernel
theorem dX6_number_37 : decode cX6_number 37 = .ok (.isub, 1) := by decide +kernel
theorem dX6_number_38 : decode cX6_number 38 = .ok (.iload_n 3, 1) := by decide +kernel
theorem dX6_number_39 : decode cX6_number 39 = .ok (.if_icmp .le 33, 3) := by decide +kernel
theorem dX6_number_42 : decode cX6_number 42 = .ok (.aload_n 0, 1) := by decide +kernel
theorem dX6_number_43 : decode cX6_number 43 = .ok (.getfield 30, 3) := by decide +kernel
theorem dX6_number_46 : decode cX6_number 46 = .ok (.bipush 6, 2) := by decide +kernel
theorem dX6_number_48 : decode cX6_number 48 = .ok (.iload_n 1, 1) := by decide +kernel
theorem dX6_number_49 : decode cX6_number 49 = .ok (.imul, 1) := by decide +kernel
theorem dX6_number_50 : decode cX6_number 50 = .ok (.aload_n 0, 1) := by decide +kernel
theorem dX6_number_51 : decode cX6_number 51 = .ok (.getfield 21, 3) := by decide +kernel
theorem dX6_number_54 : decode cX6_number 54 = .ok (.bipush 24, 2) := by decide +kernel
theorem dX6_number_56 : decode cX6_number 56 = .ok (.iload_n 1, 1) := by decide +kernel
theorem dX6_number_57 : decode cX6_number 57 = .ok (.imul, 1) := by decide +kernel
theorem dX6_number_58 : decode cX6_number 58 = .ok (.iload 5, 2) := by decide +kernel
theorem dX6_number_60 : decode cX6_number 60 = .ok (.iadd, 1) := by decide +kernel
theorem dX6_number_61 : decode cX6_number 61 = .ok (.iaload, 1) := by decide +kernel
theorem dX6_number_62 : decode cX6_number 62 = .ok (.iadd, 1) := by decide +kernel
theorem dX6_number_63 : decode cX6_number 63 = .ok (.iaload, 1) := by decide +kernel
theorem dX6_number_64 : decode cX6_number 64 = .ok (.istore 5, 2) := by decide +kernel
theorem dX6_number_66 : decode cX6_number 66 = .ok (.iinc 4 (-2), 3) := by decide +kernel
theorem dX6_number_69 : decode cX6_number 69 = .ok (.goto (-35), 3) := by decide +kernel
theorem dX6_number_72 : decode cX6_number 72 = .ok (.aload_n 0, 1) := by decide +kernel
theorem dX6_number_73 : decode cX6_number 73 = .ok (.getfield 21, 3) := by decide +kernel
theorem dX6_number_76 : decode cX6_number 76 = .ok (.bipush 24, 2) := by decide +kernel
theorem dX6_number_78 : decode cX6_number 78 = .ok (.iload_n 1, 1) := by decide +kernel
theorem dX6_number_79 : decode cX6_number 79 = .ok (.imul, 1) := by decide +kernel
theorem dX6_number_80 : decode cX6_number 80 = .ok (.iload 5, 2) := by decide +kernel
theorem dX6_number_82 : decode cX6_number 82 = .ok (.iadd, 1) := by decide +kernel
theorem dX6_number_83 : decode cX6_number 83 = .ok (.iaload, 1) := by decide +kernel
theorem dX6_number_84 : decode cX6_number 84 = .ok (.istore 6, 2) := by decide +kernel
theorem dX6_number_86 : decode cX6_number 86 = .ok (.iload_n 3, 1) := by decide +kernel
theorem dX6_number_87 : decode cX6_number 87 = .ok (.iconst 2, 1) := by decide +kernel
theorem dX6_number_88 : decode cX6_number 88 = .ok (.irem, 1) := by decide +kernel
theorem dX6_number_89 : decode cX6_number 89 = .ok (.iconst 1, 1) := by decide +kernel
theorem dX6_number_90 : decode cX6_number 90 = .ok (.if_icmp .ne 18, 3) := by decide +kernel
theorem dX6_number_93 : decode cX6_number 93 = .ok (.aload_n 0, 1) := by decide +kernel
theorem dX6_number_94 : decode cX6_number 94 = .ok (.getfield 24, 3) := by decide +kernel
theorem dX6_number_97 : decode cX6_number 97 = .ok (.bipush 24, 2) := by decide +kernel
theorem dX6_number_99 : decode cX6_number 99 = .ok (.iload_n 1, 1) := by decide +kernel
theorem dX6_number_100 : decode cX6_number 100 = .ok (.imul, 1) := by decide +kernel
theorem dX6_number_101 : decode cX6_number 101 = .ok (.iload 5, 2) := by decide +kernel
theorem dX6_number_103 : decode cX6_number 103 = .ok (.iadd, 1) := by decide +kernel
theorem dX6_number_104 : decode cX6_number 104 = .ok (.iaload, 1) := by decide +kernel
theorem dX6_number_105 : decode cX6_number 105 = .ok (.goto 24, 3) := by decide +kernel
theorem dX6_number_108 : decode cX6_number 108 = .ok (.iload 6, 2) := by decide +kernel
theorem dX6_number_110 : decode cX6_number 110 = .ok (.ifCond .ne 7, 3) := by decide +kernel
theorem dX6_number_113 : decode cX6_number 113 = .ok (.iconst 1, 1) := by decide +kernel
theorem dX6_number_114 : decode cX6_number 114 = .ok (.goto 15, 3) := by decide +kernel
theorem dX6_number_117 : decode cX6_number 117 = .ok (.aload_n 0, 1) := by decide +kernel
theorem dX6_number_118 : decode cX6_number 118 = .ok (.getfield 33, 3) := by decide +kernel
theorem dX6_number_121 : decode cX6_number 121 = .ok (.bipush 6, 2) := by decide +kernel
theorem dX6_number_123 : decode cX6_number 123 = .ok (.iload_n 1, 1) := by decide +kernel
theorem dX6_number_124 : decode cX6_number 124 = .ok (.imul, 1) := by decide +kernel
theorem dX6_number_125 : decode cX6_number 125 = .ok (.iload 6, 2) := by decide +kernel
theorem dX6_number_127 : decode cX6_number 127 = .ok (.iadd, 1) := by decide +kernel
theorem dX6_number_128 : decode cX6_number 128 = .ok (.iaload, 1) := by decide +kernel
theorem dX6_number_129 : decode cX6_number 129 = .ok (.ireturn, 1) := by decide +kernel
theorem dX6_noRevision_0 : decode cX6_noRevision 0 = .ok (.iload_n 1, 1) := by decide +kernel
theorem dX6_noRevision_1 : decode cX6_noRevision 1 = .ok (.iconst 4, 1) := by decide +kernel
theorem dX6_noRevision_2 : decode cX6_noRevision 2 = .ok (.invokestatic 72, 3) := by decide +kernel
theorem dX6_noRevision_5 : decode cX6_noRevision 5 = .ok (.ifCond .eq 16, 3) := by decide +kernel
theorem dX6_noRevision_8 : decode cX6_noRevision 8 = .ok (.iload_n 2, 1) := by decide +kernel
theorem dX6_noRevision_9 : decode cX6_noRevision 9 = .ok (.aload_n 0, 1) := by decide +kernel
theorem dX6_noRevision_10 : decode cX6_noRevision 10 = .ok (.getfield 7, 3) := by decide +kernel
theorem dX6_noRevision_13 : decode cX6_noRevision 13 = .ok (.iload_n 1, 1) := by decide +kernel
theorem dX6_noRevision_14 : decode cX6_noRevision 14 = .ok (.iaload, 1) := by decide +kernel
theorem dX6_noRevision_15 : decode cX6_noRevision 15 = .ok (.invokestatic 72, 3) := by decide +kernel
theorem dX6_noRevision_18 : decode cX6_noRevision 18 = .ok (.ifCond .ne 7, 3) := by decide +kernel
theorem dX6_noRevision_21 : decode cX6_noRevision 21 = .ok (.iconst 1, 1) := by decide +kernel
theorem dX6_noRevision_22 : decode cX6_noRevision 22 = .ok (.goto 4, 3) := by decide +kernel
theorem dX6_noRevision_25 : decode cX6_noRevision 25 = .ok (.iconst 0, 1) := by decide +kernel
theorem dX6_noRevision_26 : decode cX6_noRevision 26 = .ok (.ireturn, 1) := by decide +kernel
theorem dX6_parts_0 : decode cX6_parts 0 = .ok (.iconst 2, 1) := by decide +kernel
theorem dX6_parts_1 : decode cX6_parts 1 = .ok (.istore_n 3, 1) := by decide +kernel
theorem dX6_parts_2 : decode cX6_parts 2 = .ok (.iload_n 2, 1) := by decide +kernel
theorem dX6_parts_3 : decode cX6_parts 3 = .ok (.istore 4, 2) := by decide +kernel
theorem dX6_parts_5 : decode cX6_parts 5 = .ok (.aload_n 0, 1) := by decide +kernel
theorem dX6_parts_6 : decode cX6_parts 6 = .ok (.getfield 21, 3) := by decide +kernel
theorem dX6_parts_9 : decode cX6_parts 9 = .ok (.bipush 24, 2) := by decide +kernel
theorem dX6_parts_11 : decode cX6_parts 11 = .ok (.iload_n 1, 1) := by decide +kernel
theorem dX6_parts_12 : decode cX6_parts 12 = .ok (.imul, 1) := by decide +kernel
theorem dX6_parts_13 : decode cX6_parts 13 = .ok (.iload 4, 2) := by decide +kernel
theorem dX6_parts_15 : decode cX6_parts 15 = .ok (.iadd, 1) := by decide +kernel
theorem dX6_parts_16 : decode cX6_parts 16 = .ok (.iaload, 1) := by decide +kernel
theorem dX6_parts_17 : decode cX6_parts 17 = .ok (.ifCond .le 33, 3) := by decide +kernel
theorem dX6_parts_20 : decode cX6_parts 20 = .ok (.aload_n 0, 1) := by decide +kernel
theorem dX6_parts_21 : decode cX6_parts 21 = .ok (.getfield 30, 3) := by decide +kernel
theorem dX6_parts_24 : decode cX6_parts 24 = .ok (.bipush 6, 2) := by decide +kernel
theorem dX6_parts_26 : decode cX6_parts 26 = .ok (.iload_n 1, 1) := by decide +kernel
theorem dX6_parts_27 : decode cX6_parts 27 = .ok (.imul, 1) := by decide +kernel
theorem dX6_parts_28 : decode cX6_parts 28 = .ok (.aload_n 0, 1) := by decide +kernel
theorem dX6_parts_29 : decode cX6_parts 29 = .ok (.getfield 21, 3) := by decide +kernel
theorem dX6_parts_32 : decode cX6_parts 32 = .ok (.bipush 24, 2) := by decide +kernel
theorem dX6_parts_34 : decode cX6_parts 34 = .ok (.iload_n 1, 1) := by decide +kernel
theorem dX6_parts_35 : decode cX6_parts 35 = .ok (.imul, 1) := by decide +kernel
theorem dX6_parts_36 : decode cX6_parts 36 = .ok (.iload 4, 2) := by decide +kernel
theorem dX6_parts_38 : decode cX6_parts 38 = .ok (.iadd, 1) := by decide +kernel
theorem dX6_parts_39 : decode cX6_parts 39 = .ok (.iaload, 1) := by decide +kernel
theorem dX6_parts_40 : decode cX6_parts 40 = .ok (.iadd, 1) := by decide +kernel
theorem dX6_parts_41 : decode cX6_parts 41 = .ok (.iaload, 1) := by decide +kernel
theorem dX6_parts_42 : decode cX6_parts 42 = .ok (.istore 4, 2) := by decide +kernel
theorem dX6_parts_44 : decode cX6_parts 44 = .ok (.iinc 3 2, 3) := by decide +kernel
theorem dX6_parts_47 : decode cX6_parts 47 = .ok (.goto (-42), 3) := by decide +kernel
theorem dX6_parts_50 : decode cX6_parts 50 = .ok (.iload_n 3, 1) := by decide +kernel
theorem dX6_parts_51 : decode cX6_parts 51 = .ok (.ireturn, 1) := by decide +kernel
theorem dX6_content_0 : decode cX6_content 0 = .ok (.aload_n 0, 1) := by decide +kernel
theorem dX6_content_1 : decode cX6_content 1 = .ok (.iload_n 1, 1) := by decide +kernel
theorem dX6_content_2 : decode cX6_content 2 = .ok (.iload_n 2, 1) := by decide +kernel
theorem dX6_content_3 : decode cX6_content 3 = .ok (.invokevirtual 178, 3) := by decide +kernel
theorem dX6_content_6 : decode cX6_content 6 = .ok (.ifCond .eq 9, 3) := by decide +kernel
theorem dX6_content_9 : decode cX6_content 9 = .ok (.ldc2_w 176, 3) := by decide +kernel
theorem dX6_content_12 : decode cX6_content 12 = .ok (.goto 14, 3) := by decide +kernel
theorem dX6_content_15 : decode cX6_content 15 = .ok (.aload_n 0, 1) := by decide +kernel
theorem dX6_content_16 : decode cX6_content 16 = .ok (.getfield 13, 3) := by decide +kernel
theorem dX6_content_19 : decode cX6_content 19 = .ok (.bipush 24, 2) := by decide +kernel
theorem dX6_content_21 : decode cX6_content 21 = .ok (.iload_n 1, 1) := by decide +kernel
theorem dX6_content_22 : decode cX6_content 22 = .ok (.imul, 1) := by decide +kernel
theorem dX6_content_23 : decode cX6_content 23 = .ok (.iload_n 2, 1) := by decide +kernel
theorem dX6_content_24 : decode cX6_content 24 = .ok (.iadd, 1) := by decide +kernel
theorem dX6_content_25 : decode cX6_content 25 = .ok (.laload, 1) := by decide +kernel
theorem dX6_content_26 : decode cX6_content 26 = .ok (.lreturn, 1) := by decide +kernel
theorem dX6_dead_0 : decode cX6_dead 0 = .ok (.aload_n 0, 1) := by decide +kernel
theorem dX6_dead_1 : decode cX6_dead 1 = .ok (.iload_n 1, 1) := by decide +kernel
theorem dX6_dead_2 : decode cX6_dead 2 = .ok (.iload_n 2, 1) := by decide +kernel
theorem dX6_dead_3 : decode cX6_dead 3 = .ok (.invokevirtual 178, 3) := by decide +kernel
theorem dX6_dead_6 : decode cX6_dead 6 = .ok (.ifCond .ne 21, 3) := by decide +kernel
theorem dX6_dead_9 : decode cX6_dead 9 = .ok (.aload_n 0, 1) := by decide +kernel
theorem dX6_dead_10 : decode cX6_dead 10 = .ok (.getfield 17, 3) := by decide +kernel
theorem dX6_dead_13 : decode cX6_dead 13 = .ok (.bipush 24, 2) := by decide +kernel
theorem dX6_dead_15 : decode cX6_dead 15 = .ok (.iload_n 1, 1) := by decide +kernel
theorem dX6_dead_16 : decode cX6_dead 16 = .ok (.imul, 1) := by decide +kernel
theorem dX6_dead_17 : decode cX6_dead 17 = .ok (.iload_n 2, 1) := by decide +kernel
theorem dX6_dead_18 : decode cX6_dead 18 = .ok (.iadd, 1) := by decide +kernel
theorem dX6_dead_19 : decode cX6_dead 19 = .ok (.baload, 1) := by decide +kernel
theorem dX6_dead_20 : decode cX6_dead 20 = .ok (.ifCond .eq 7, 3) := by decide +kernel
theorem dX6_dead_23 : decode cX6_dead 23 = .ok (.iconst 1, 1) := by decide +kernel
theorem dX6_dead_24 : decode cX6_dead 24 = .ok (.goto 4, 3) := by decide +kernel
theorem dX6_dead_27 : decode cX6_dead 27 = .ok (.iconst 0, 1) := by decide +kernel
theorem dX6_dead_28 : decode cX6_dead 28 = .ok (.ireturn, 1) := by decide +kernel
theorem dX6_kept_0 : decode cX6_kept 0 = .ok (.aload_n 0, 1) := by decide +kernel
theorem dX6_kept_1 : decode cX6_kept 1 = .ok (.iload_n 1, 1) := by decide +kernel
theorem dX6_kept_2 : decode cX6_kept 2 = .ok (.iload_n 2, 1) := by decide +kernel
theorem dX6_kept_3 : decode cX6_kept 3 = .ok (.invokevirtual 178, 3) := by decide +kernel
theorem dX6_kept_6 : decode cX6_kept 6 = .ok (.ifCond .eq 5, 3) := by decide +kernel
theorem dX6_kept_9 : decode cX6_kept 9 = .ok (.iconst (-1), 1) := by decide +kernel
theorem dX6_kept_10 : decode cX6_kept 10 = .ok (.ireturn, 1) := by decide +kernel
theorem dX6_kept_11 : decode cX6_kept 11 = .ok (.aload_n 0, 1) := by decide +kernel
theorem dX6_kept_12 : decode cX6_kept 12 = .ok (.getfield 13, 3) := by decide +kernel
theorem dX6_kept_15 : decode cX6_kept 15 = .ok (.bipush 24, 2) := by decide +kernel
theorem dX6_kept_17 : decode cX6_kept 17 = .ok (.iload_n 1, 1) := by decide +kernel
theorem dX6_kept_18 : decode cX6_kept 18 = .ok (.imul, 1) := by decide +kernel
theorem dX6_kept_19 : decode cX6_kept 19 = .ok (.iload_n 2, 1) := by decide +kernel
theorem dX6_kept_20 : decode cX6_kept 20 = .ok (.iadd, 1) := by decide +kernel
theorem dX6_kept_21 : decode cX6_kept 21 = .ok (.laload, 1) := by decide +kernel
theorem dX6_kept_22 : decode cX6_kept 22 = .ok (.lstore_n 3, 1) := by decide +kernel
theorem dX6_kept_23 : decode cX6_kept 23 = .ok (.aload_n 0, 1) := by decide +kernel
theorem dX6_kept_24 : decode cX6_kept 24 = .ok (.getfield 21, 3) := by decide +kernel
theorem dX6_kept_27 : decode cX6_kept 27 = .ok (.bipush 24, 2) := by decide +kernel
theorem dX6_kept_29 : decode cX6_kept 29 = .ok (.iload_n 1, 1) := by decide +kernel
theorem dX6_kept_30 : decode cX6_kept 30 = .ok (.imul, 1) := by decide +kernel
theorem dX6_kept_31 : decode cX6_kept 31 = .ok (.iload_n 2, 1) := by decide +kernel
theorem dX6_kept_32 : decode cX6_kept 32 = .ok (.iadd, 1) := by decide +kernel
theorem dX6_kept_33 : decode cX6_kept 33 = .ok (.iaload, 1) := by decide +kernel
theorem dX6_kept_34 : decode cX6_kept 34 = .ok (.istore 5, 2) := by decide +kernel
theorem dX6_kept_36 : decode cX6_kept 36 = .ok (.aload_n 0, 1) := by decide +kernel
theorem dX6_kept_37 : decode cX6_kept 37 = .ok (.getfield 24, 3) := by decide +kernel
theorem dX6_kept_40 : decode cX6_kept 40 = .ok (.bipush 24, 2) := by decide +kernel
theorem dX6_kept_42 : decode cX6_kept 42 = .ok (.iload_n 1, 1) := by decide +kernel
theorem dX6_kept_43 : decode cX6_kept 43 = .ok (.imul, 1) := by decide +kernel
theorem dX6_kept_44 : decode cX6_kept 44 = .ok (.iload_n 2, 1) := by decide +kernel
theorem dX6_kept_45 : decode cX6_kept 45 = .ok (.iadd, 1) := by decide +kernel
theorem dX6_kept_46 : decode cX6_kept 46 = .ok (.iaload, 1) := by decide +kernel
theorem dX6_kept_47 : decode cX6_kept 47 = .ok (.istore 6, 2) := by decide +kernel
theorem dX6_kept_49 : decode cX6_kept 49 = .ok (.iload 5, 2) := by decide +kernel
theorem dX6_kept_51 : decode cX6_kept 51 = .ok (.ifCond .ne 16, 3) := by decide +kernel
theorem dX6_kept_54 : decode cX6_kept 54 = .ok (.aload_n 0, 1) := by decide +kernel
theorem dX6_kept_55 : decode cX6_kept 55 = .ok (.iload_n 1, 1) := by decide +kernel
theorem dX6_kept_56 : decode cX6_kept 56 = .ok (.iconst 0, 1) := by decide +kernel
theorem dX6_kept_57 : decode cX6_kept 57 = .ok (.iload 6, 2) := by decide +kernel
theorem dX6_kept_59 : decode cX6_kept 59 = .ok (.iconst 1, 1) := by decide +kernel
theorem dX6_kept_60 : decode cX6_kept 60 = .ok (.iadd, 1) := by decide +kernel
theorem dX6_kept_61 : decode cX6_kept 61 = .ok (.invokevirtual 184, 3) := by decide +kernel
theorem dX6_kept_64 : decode cX6_kept 64 = .ok (.goto 35, 3) := by decide +kernel
theorem dX6_kept_67 : decode cX6_kept 67 = .ok (.iload 6, 2) := by decide +kernel
theorem dX6_kept_69 : decode cX6_kept 69 = .ok (.iconst 1, 1) := by decide +kernel
theorem dX6_kept_70 : decode cX6_kept 70 = .ok (.if_icmp .ne 18, 3) := by decide +kernel
theorem dX6_kept_73 : decode cX6_kept 73 = .ok (.aload_n 0, 1) := by decide +kernel
theorem dX6_kept_74 : decode cX6_kept 74 = .ok (.getfield 30, 3) := by decide +kernel
theorem dX6_kept_77 : decode cX6_kept 77 = .ok (.bipush 6, 2) := by decide +kernel
theorem dX6_kept_79 : decode cX6_kept 79 = .ok (.iload_n 1, 1) := by decide +kernel
theorem dX6_kept_80 : decode cX6_kept 80 = .ok (.imul, 1) := by decide +kernel
theorem dX6_kept_81 : decode cX6_kept 81 = .ok (.iload 5, 2) := by decide +kernel
theorem dX6_kept_83 : decode cX6_kept 83 = .ok (.iadd, 1) := by decide +kernel
theorem dX6_kept_84 : decode cX6_kept 84 = .ok (.iaload, 1) := by decide +kernel
theorem dX6_kept_85 : decode cX6_kept 85 = .ok (.goto 14, 3) := by decide +kernel
theorem dX6_kept_88 : decode cX6_kept 88 = .ok (.aload_n 0, 1) := by decide +kernel
theorem dX6_kept_89 : decode cX6_kept 89 = .ok (.iload_n 1, 1) := by decide +kernel
theorem dX6_kept_90 : decode cX6_kept 90 = .ok (.iload 5, 2) := by decide +kernel
theorem dX6_kept_92 : decode cX6_kept 92 = .ok (.iload 6, 2) := by decide +kernel
theorem dX6_kept_94 : decode cX6_kept 94 = .ok (.iconst 1, 1) := by decide +kernel
theorem dX6_kept_95 : decode cX6_kept 95 = .ok (.isub, 1) := by decide +kernel
theorem dX6_kept_96 : decode cX6_kept 96 = .ok (.invokevirtual 184, 3) := by decide +kernel
theorem dX6_kept_99 : decode cX6_kept 99 = .ok (.istore 7, 2) := by decide +kernel
theorem dX6_kept_101 : decode cX6_kept 101 = .ok (.iload 7, 2) := by decide +kernel
theorem dX6_kept_103 : decode cX6_kept 103 = .ok (.ifCond .ge 10, 3) := by decide +kernel
theorem dX6_kept_106 : decode cX6_kept 106 = .ok (.lload_n 3, 1) := by decide +kernel
theorem dX6_kept_107 : decode cX6_kept 107 = .ok (.invokestatic 78, 3) := by decide +kernel
theorem dX6_kept_110 : decode cX6_kept 110 = .ok (.goto 20, 3) := by decide +kernel
theorem dX6_kept_113 : decode cX6_kept 113 = .ok (.aload_n 0, 1) := by decide +kernel
theorem dX6_kept_114 : decode cX6_kept 114 = .ok (.aload_n 0, 1) := by decide +kernel
theorem dX6_kept_115 : decode cX6_kept 115 = .ok (.getfield 13, 3) := by decide +kernel
theorem dX6_kept_118 : decode cX6_kept 118 = .ok (.bipush 24, 2) := by decide +kernel
theorem dX6_kept_120 : decode cX6_kept 120 = .ok (.iload_n 1, 1) := by decide +kernel
theorem dX6_kept_121 : decode cX6_kept 121 = .ok (.imul, 1) := by decide +kernel
theorem dX6_kept_122 : decode cX6_kept 122 = .ok (.iload 7, 2) := by decide +kernel
theorem dX6_kept_124 : decode cX6_kept 124 = .ok (.iadd, 1) := by decide +kernel
theorem dX6_kept_125 : decode cX6_kept 125 = .ok (.laload, 1) := by decide +kernel
theorem dX6_kept_126 : decode cX6_kept 126 = .ok (.lload_n 3, 1) := by decide +kernel
theorem dX6_kept_127 : decode cX6_kept 127 = .ok (.invokevirtual 187, 3) := by decide +kernel
theorem dX6_kept_130 : decode cX6_kept 130 = .ok (.ireturn, 1) := by decide +kernel
theorem dX6_revisionAt_0 : decode cX6_revisionAt 0 = .ok (.iconst 0, 1) := by decide +kernel
theorem dX6_revisionAt_1 : decode cX6_revisionAt 1 = .ok (.istore 4, 2) := by decide +kernel
theorem dX6_revisionAt_3 : decode cX6_revisionAt 3 = .ok (.iload 4, 2) := by decide +kernel
theorem dX6_revisionAt_5 : decode cX6_revisionAt 5 = .ok (.aload_n 0, 1) := by decide +kernel
theorem dX6_revisionAt_6 : decode cX6_revisionAt 6 = .ok (.getfield 7, 3) := by decide +kernel
theorem dX6_revisionAt_9 : decode cX6_revisionAt 9 = .ok (.iload_n 1, 1) := by decide +kernel
theorem dX6_revisionAt_10 : decode cX6_revisionAt 10 = .ok (.iaload, 1) := by decide +kernel
theorem dX6_revisionAt_11 : decode cX6_revisionAt 11 = .ok (.if_icmp .ge 44, 3) := by decide +kernel
theorem dX6_revisionAt_14 : decode cX6_revisionAt 14 = .ok (.aload_n 0, 1) := by decide +kernel
theorem dX6_revisionAt_15 : decode cX6_revisionAt 15 = .ok (.getfield 21, 3) := by decide +kernel
theorem dX6_revisionAt_18 : decode cX6_revisionAt 18 = .ok (.bipush 24, 2) := by decide +kernel
theorem dX6_revisionAt_20 : decode cX6_revisionAt 20 = .ok (.iload_n 1, 1) := by decide +kernel
theorem dX6_revisionAt_21 : decode cX6_revisionAt 21 = .ok (.imul, 1) := by decide +kernel
theorem dX6_revisionAt_22 : decode cX6_revisionAt 22 = .ok (.iload 4, 2) := by decide +kernel
theorem dX6_revisionAt_24 : decode cX6_revisionAt 24 = .ok (.iadd, 1) := by decide +kernel
theorem dX6_revisionAt_25 : decode cX6_revisionAt 25 = .ok (.iaload, 1) := by decide +kernel
theorem dX6_revisionAt_26 : decode cX6_revisionAt 26 = .ok (.iload_n 2, 1) := by decide +kernel
theorem dX6_revisionAt_27 : decode cX6_revisionAt 27 = .ok (.if_icmp .ne 22, 3) := by decide +kernel
theorem dX6_revisionAt_30 : decode cX6_revisionAt 30 = .ok (.aload_n 0, 1) := by decide +kernel
theorem dX6_revisionAt_31 : decode cX6_revisionAt 31 = .ok (.getfield 24, 3) := by decide +kernel
theorem dX6_revisionAt_34 : decode cX6_revisionAt 34 = .ok (.bipush 24, 2) := by decide +kernel
theorem dX6_revisionAt_36 : decode cX6_revisionAt 36 = .ok (.iload_n 1, 1) := by decide +kernel
theorem dX6_revisionAt_37 : decode cX6_revisionAt 37 = .ok (.imul, 1) := by decide +kernel
theorem dX6_revisionAt_38 : decode cX6_revisionAt 38 = .ok (.iload 4, 2) := by decide +kernel
theorem dX6_revisionAt_40 : decode cX6_revisionAt 40 = .ok (.iadd, 1) := by decide +kernel
theorem dX6_revisionAt_41 : decode cX6_revisionAt 41 = .ok (.iaload, 1) := by decide +kernel
theorem dX6_revisionAt_42 : decode cX6_revisionAt 42 = .ok (.iload_n 3, 1) := by decide +kernel
theorem dX6_revisionAt_43 : decode cX6_revisionAt 43 = .ok (.if_icmp .ne 6, 3) := by decide +kernel
theorem dX6_revisionAt_46 : decode cX6_revisionAt 46 = .ok (.iload 4, 2) := by decide +kernel
theorem dX6_revisionAt_48 : decode cX6_revisionAt 48 = .ok (.ireturn, 1) := by decide +kernel
theorem dX6_revisionAt_49 : decode cX6_revisionAt 49 = .ok (.iinc 4 1, 3) := by decide +kernel
theorem dX6_revisionAt_52 : decode cX6_revisionAt 52 = .ok (.goto (-49), 3) := by decide +kernel
theorem dX6_revisionAt_55 : decode cX6_revisionAt 55 = .ok (.iconst (-1), 1) := by decide +kernel
theorem dX6_revisionAt_56 : decode cX6_revisionAt 56 = .ok (.ireturn, 1) := by decide +kernel
theorem dX6_difference_0 : decode cX6_difference 0 = .ok (.aload_n 0, 1) := by decide +kernel
theorem dX6_difference_1 : decode cX6_difference 1 = .ok (.lload_n 1, 1) := by decide +kernel
theorem dX6_difference_2 : decode cX6_difference 2 = .ok (.lload_n 3, 1) := by decide +kernel
theorem dX6_difference_3 : decode cX6_difference 3 = .ok (.invokevirtual 88, 3) := by decide +kernel
theorem dX6_difference_6 : decode cX6_difference 6 = .ok (.lload_n 1, 1) := by decide +kernel
theorem dX6_difference_7 : decode cX6_difference 7 = .ok (.invokestatic 78, 3) := by decide +kernel
theorem dX6_difference_10 : decode cX6_difference 10 = .ok (.lload_n 3, 1) := by decide +kernel
theorem dX6_difference_11 : decode cX6_difference 11 = .ok (.invokestatic 78, 3) := by decide +kernel
theorem dX6_difference_14 : decode cX6_difference 14 = .ok (.iadd, 1) := by decide +kernel
theorem dX6_difference_15 : decode cX6_difference 15 = .ok (.iconst 2, 1) := by decide +kernel
theorem dX6_difference_16 : decode cX6_difference 16 = .ok (.aload_n 0, 1) := by decide +kernel
theorem dX6_difference_17 : decode cX6_difference 17 = .ok (.getfield 60, 3) := by decide +kernel
theorem dX6_difference_20 : decode cX6_difference 20 = .ok (.iconst 0, 1) := by decide +kernel
theorem dX6_difference_21 : decode cX6_difference 21 = .ok (.iaload, 1) := by decide +kernel
theorem dX6_difference_22 : decode cX6_difference 22 = .ok (.imul, 1) := by decide +kernel
theorem dX6_difference_23 : decode cX6_difference 23 = .ok (.isub, 1) := by decide +kernel
theorem dX6_difference_24 : decode cX6_difference 24 = .ok (.ireturn, 1) := by decide +kernel
theorem dX6_named_0 : decode cX6_named 0 = .ok (.iload_n 1, 1) := by decide +kernel
theorem dX6_named_1 : decode cX6_named 1 = .ok (.iconst 4, 1) := by decide +kernel
theorem dX6_named_2 : decode cX6_named 2 = .ok (.invokestatic 72, 3) := by decide +kernel
theorem dX6_named_5 : decode cX6_named 5 = .ok (.ifCond .eq 11, 3) := by decide +kernel
theorem dX6_named_8 : decode cX6_named 8 = .ok (.iload_n 2, 1) := by decide +kernel
theorem dX6_named_9 : decode cX6_named 9 = .ok (.iconst 5, 1) := by decide +kernel
theorem dX6_named_10 : decode cX6_named 10 = .ok (.invokestatic 72, 3) := by decide +kernel
theorem dX6_named_13 : decode cX6_named 13 = .ok (.ifCond .ne 7, 3) := by decide +kernel
theorem dX6_named_16 : decode cX6_named 16 = .ok (.iconst (-1), 1) := by decide +kernel
theorem dX6_named_17 : decode cX6_named 17 = .ok (.goto 13, 3) := by decide +kernel
theorem dX6_named_20 : decode cX6_named 20 = .ok (.aload_n 0, 1) := by decide +kernel
theorem dX6_named_21 : decode cX6_named 21 = .ok (.getfield 45, 3) := by decide +kernel
theorem dX6_named_24 : decode cX6_named 24 = .ok (.iconst 5, 1) := by decide +kernel
theorem dX6_named_25 : decode cX6_named 25 = .ok (.iload_n 1, 1) := by decide +kernel
theorem dX6_named_26 : decode cX6_named 26 = .ok (.imul, 1) := by decide +kernel
theorem dX6_named_27 : decode cX6_named 27 = .ok (.iload_n 2, 1) := by decide +kernel
theorem dX6_named_28 : decode cX6_named 28 = .ok (.iadd, 1) := by decide +kernel
theorem dX6_named_29 : decode cX6_named 29 = .ok (.iaload, 1) := by decide +kernel
theorem dX6_named_30 : decode cX6_named 30 = .ok (.ireturn, 1) := by decide +kernel
end
section
/-! what the bytes say -/
theorem dX6_standard_0 : decode cX6_standard 0 = .ok (.iload_n 1, 1) := by decide +kernel
theorem dX6_standard_1 : decode cX6_standard 1 = .ok (.iconst 4, 1) := by decide +kernel
theorem dX6_standard_2 : decode cX6_standard 2 = .ok (.invokestatic 72, 3) := by decide +kernel
theorem dX6_standard_5 : decode cX6_standard 5 = .ok (.ifCond .eq 12, 3) := by decide +kernel
theorem dX6_standard_8 : decode cX6_standard 8 = .ok (.aload_n 0, 1) := by decide +kernel
theorem dX6_standard_9 : decode cX6_standard 9 = .ok (.getfield 7, 3) := by decide +kernel
theorem dX6_standard_12 : decode cX6_standard 12 = .ok (.iload_n 1, 1) := by decide +kernel
theorem dX6_standard_13 : decode cX6_standard 13 = .ok (.iaload, 1) := by decide +kernel
theorem dX6_standard_14 : decode cX6_standard 14 = .ok (.ifCond .ne 7, 3) := by decide +kernel
theorem dX6_standard_17 : decode cX6_standard 17 = .ok (.iconst (-1), 1) := by decide +kernel
theorem dX6_standard_18 : decode cX6_standard 18 = .ok (.goto 9, 3) := by decide +kernel
theorem dX6_standard_21 : decode cX6_standard 21 = .ok (.aload_n 0, 1) := by decide +kernel
theorem dX6_standard_22 : decode cX6_standard 22 = .ok (.getfield 39, 3) := by decide +kernel
theorem dX6_standard_25 : decode cX6_standard 25 = .ok (.iload_n 1, 1) := by decide +kernel
theorem dX6_standard_26 : decode cX6_standard 26 = .ok (.iaload, 1) := by decide +kernel
theorem dX6_standard_27 : decode cX6_standard 27 = .ok (.ireturn, 1) := by decide +kernel
theorem dL_law_0 : decode code 0 = .ok (.new 7, 3) := by decide +kernel
theorem dL_law_3 : decode code 3 = .ok (.dup, 1) := by decide +kernel
theorem dL_law_4 : decode code 4 = .ok (.invokespecial 9, 3) := by decide +kernel
theorem dL_law_7 : decode code 7 = .ok (.astore_n 1, 1) := by decide +kernel
theorem dL_law_8 : decode code 8 = .ok (.new 10, 3) := by decide +kernel
theorem dL_law_11 : decode code 11 = .ok (.dup, 1) := by decide +kernel
theorem dL_law_12 : decode code 12 = .ok (.invokespecial 12, 3) := by decide +kernel
theorem dL_law_15 : decode code 15 = .ok (.astore_n 2, 1) := by decide +kernel
theorem dL_law_16 : decode code 16 = .ok (.iconst 0, 1) := by decide +kernel
theorem dL_law_17 : decode code 17 = .ok (.istore_n 3, 1) := by decide +kernel
theorem dL_law_18 : decode code 18 = .ok (.iload_n 3, 1) := by decide +kernel
theorem dL_law_19 : decode code 19 = .ok (.aload_n 0, 1) := by decide +kernel
theorem dL_law_20 : decode code 20 = .ok (.arraylength, 1) := by decide +kernel
theorem dL_law_21 : decode code 21 = .ok (.iconst 5, 1) := by decide +kernel
theorem dL_law_22 : decode code 22 = .ok (.isub, 1) := by decide +kernel
theorem dL_law_23 : decode code 23 = .ok (.if_icmp .gt 882, 3) := by decide +kernel
theorem dL_law_26 : decode code 26 = .ok (.aload_n 0, 1) := by decide +kernel
theorem dL_law_27 : decode code 27 = .ok (.iload_n 3, 1) := by decide +kernel
theorem dL_law_28 : decode code 28 = .ok (.iaload, 1) := by decide +kernel
theorem dL_law_29 : decode code 29 = .ok (.bipush 31, 2) := by decide +kernel
theorem dL_law_31 : decode code 31 = .ok (.iand, 1) := by decide +kernel
theorem dL_law_32 : decode code 32 = .ok (.tableswitch 867 0 18 #[92, 165, 238, 271, 304, 347, 416, 479, 512, 545, 579, 612, 645, 668, 711, 745, 778, 811, 844], 92) := by decide +kernel
theorem dL_law_124 : decode code 124 = .ok (.aload_n 1, 1) := by decide +kernel
theorem dL_law_125 : decode code 125 = .ok (.aload_n 0, 1) := by decide +kernel
theorem dL_law_126 : decode code 126 = .ok (.iload_n 3, 1) := by decide +kernel
theorem dL_law_127 : decode code 127 = .ok (.iconst 1, 1) := by decide +kernel
theorem dL_law_128 : decode code 128 = .ok (.iadd, 1) := by decide +kernel
theorem dL_law_129 : decode code 129 = .ok (.iaload, 1) := by decide +kernel
theorem dL_law_130 : decode code 130 = .ok (.aload_n 0, 1) := by decide +kernel
theorem dL_law_131 : decode code 131 = .ok (.iload_n 3, 1) := by decide +kernel
theorem dL_law_132 : decode code 132 = .ok (.iconst 2, 1) := by decide +kernel
theorem dL_law_133 : decode code 133 = .ok (.iadd, 1) := by decide +kernel
theorem dL_law_134 : decode code 134 = .ok (.iaload, 1) := by decide +kernel
theorem dL_law_135 : decode code 135 = .ok (.aload_n 0, 1) := by decide +kernel
theorem dL_law_136 : decode code 136 = .ok (.iload_n 3, 1) := by decide +kernel
theorem dL_law_137 : decode code 137 = .ok (.iconst 3, 1) := by decide +kernel
theorem dL_law_138 : decode code 138 = .ok (.iadd, 1) := by decide +kernel
theorem dL_law_139 : decode code 139 = .ok (.iaload, 1) := by decide +kernel
theorem dL_law_140 : decode code 140 = .ok (.i2l, 1) := by decide +kernel
theorem dL_law_141 : decode code 141 = .ok (.bipush 32, 2) := by decide +kernel
theorem dL_law_143 : decode code 143 = .ok (.lshl, 1) := by decide +kernel
theorem dL_law_144 : decode code 144 = .ok (.aload_n 0, 1) := by decide +kernel
theorem dL_law_145 : decode code 145 = .ok (.iload_n 3, 1) := by decide +kernel
theorem dL_law_146 : decode code 146 = .ok (.iconst 4, 1) := by decide +kernel
theorem dL_law_147 : decode code 147 = .ok (.iadd, 1) := by decide +kernel
theorem dL_law_148 : decode code 148 = .ok (.iaload, 1) := by decide +kernel
theorem dL_law_149 : decode code 149 = .ok (.i2l, 1) := by decide +kernel
theorem dL_law_150 : decode code 150 = .ok (.ldc2_w 13, 3) := by decide +kernel
theorem dL_law_153 : decode code 153 = .ok (.land, 1) := by decide +kernel
theorem dL_law_154 : decode code 154 = .ok (.lor, 1) := by decide +kernel
theorem dL_law_155 : decode code 155 = .ok (.invokevirtual 15, 3) := by decide +kernel
theorem dL_law_158 : decode code 158 = .ok (.aload_n 2, 1) := by decide +kernel
theorem dL_law_159 : decode code 159 = .ok (.aload_n 0, 1) := by decide +kernel
theorem dL_law_160 : decode code 160 = .ok (.iload_n 3, 1) := by decide +kernel
theorem dL_law_161 : decode code 161 = .ok (.iconst 1, 1) := by decide +kernel
theorem dL_law_162 : decode code 162 = .ok (.iadd, 1) := by decide +kernel
theorem dL_law_163 : decode code 163 = .ok (.iaload, 1) := by decide +kernel
theorem dL_law_164 : decode code 164 = .ok (.aload_n 0, 1) := by decide +kernel
theorem dL_law_165 : decode code 165 = .ok (.iload_n 3, 1) := by decide +kernel
theorem dL_law_166 : decode code 166 = .ok (.iconst 2, 1) := by decide +kernel
theorem dL_law_167 : decode code 167 = .ok (.iadd, 1) := by decide +kernel
theorem dL_law_168 : decode code 168 = .ok (.iaload, 1) := by decide +kernel
theorem dL_law_169 : decode code 169 = .ok (.aload_n 0, 1) := by decide +kernel
theorem dL_law_170 : decode code 170 = .ok (.iload_n 3, 1) := by decide +kernel
theorem dL_law_171 : decode code 171 = .ok (.iconst 3, 1) := by decide +kernel
theorem dL_law_172 : decode code 172 = .ok (.iadd, 1) := by decide +kernel
theorem dL_law_173 : decode code 173 = .ok (.iaload, 1) := by decide +kernel
theorem dL_law_174 : decode code 174 = .ok (.i2l, 1) := by decide +kernel
theorem dL_law_175 : decode code 175 = .ok (.bipush 32, 2) := by decide +kernel
theorem dL_law_177 : decode code 177 = .ok (.lshl, 1) := by decide +kernel
theorem dL_law_178 : decode code 178 = .ok (.aload_n 0, 1) := by decide +kernel
theorem dL_law_179 : decode code 179 = .ok (.iload_n 3, 1) := by decide +kernel
theorem dL_law_180 : decode code 180 = .ok (.iconst 4, 1) := by decide +kernel
theorem dL_law_181 : decode code 181 = .ok (.iadd, 1) := by decide +kernel
theorem dL_law_182 : decode code 182 = .ok (.iaload, 1) := by decide +kernel
theorem dL_law_183 : decode code 183 = .ok (.i2l, 1) := by decide +kernel
theorem dL_law_184 : decode code 184 = .ok (.ldc2_w 13, 3) := by decide +kernel
theorem dL_law_187 : decode code 187 = .ok (.land, 1) := by decide +kernel
theorem dL_law_188 : decode code 188 = .ok (.lor, 1) := by decide +kernel
theorem dL_law_189 : decode code 189 = .ok (.invokevirtual 19, 3) := by decide +kernel
theorem dL_law_192 : decode code 192 = .ok (.if_icmp .eq 707, 3) := by decide +kernel
theorem dL_law_195 : decode code 195 = .ok (.iconst 0, 1) := by decide +kernel
theorem dL_law_196 : decode code 196 = .ok (.ireturn, 1) := by decide +kernel
theorem dL_law_197 : decode code 197 = .ok (.aload_n 1, 1) := by decide +kernel
theorem dL_law_198 : decode code 198 = .ok (.aload_n 0, 1) := by decide +kernel
theorem dL_law_199 : decode code 199 = .ok (.iload_n 3, 1) := by decide +kernel
theorem dL_law_200 : decode code 200 = .ok (.iconst 1, 1) := by decide +kernel
theorem dL_law_201 : decode code 201 = .ok (.iadd, 1) := by decide +kernel
theorem dL_law_202 : decode code 202 = .ok (.iaload, 1) := by decide +kernel
theorem dL_law_203 : decode code 203 = .ok (.aload_n 0, 1) := by decide +kernel
theorem dL_law_204 : decode code 204 = .ok (.iload_n 3, 1) := by decide +kernel
theorem dL_law_205 : decode code 205 = .ok (.iconst 2, 1) := by decide +kernel
theorem dL_law_206 : decode code 206 = .ok (.iadd, 1) := by decide +kernel
theorem dL_law_207 : decode code 207 = .ok (.iaload, 1) := by decide +kernel
theorem dL_law_208 : decode code 208 = .ok (.aload_n 0, 1) := by decide +kernel
theorem dL_law_209 : decode code 209 = .ok (.iload_n 3, 1) := by decide +kernel
theorem dL_law_210 : decode code 210 = .ok (.iconst 3, 1) := by decide +kernel
theorem dL_law_211 : decode code 211 = .ok (.iadd, 1) := by decide +kernel
theorem dL_law_212 : decode code 212 = .ok (.iaload, 1) := by decide +kernel
theorem dL_law_213 : decode code 213 = .ok (.i2l, 1) := by decide +kernel
theorem dL_law_214 : decode code 214 = .ok (.bipush 32, 2) := by decide +kernel
theorem dL_law_216 : decode code 216 = .ok (.lshl, 1) := by decide +kernel
theorem dL_law_217 : decode code 217 = .ok (.aload_n 0, 1) := by decide +kernel
theorem dL_law_218 : decode code 218 = .ok (.iload_n 3, 1) := by decide +kernel
theorem dL_law_219 : decode code 219 = .ok (.iconst 4, 1) := by decide +kernel
theorem dL_law_220 : decode code 220 = .ok (.iadd, 1) := by decide +kernel
theorem dL_law_221 : decode code 221 = .ok (.iaload, 1) := by decide +kernel
theorem dL_law_222 : decode code 222 = .ok (.i2l, 1) := by decide +kernel
theorem dL_law_223 : decode code 223 = .ok (.ldc2_w 13, 3) := by decide +kernel
theorem dL_law_226 : decode code 226 = .ok (.land, 1) := by decide +kernel
theorem dL_law_227 : decode code 227 = .ok (.lor, 1) := by decide +kernel
theorem dL_law_228 : decode code 228 = .ok (.invokevirtual 20, 3) := by decide +kernel
theorem dL_law_231 : decode code 231 = .ok (.aload_n 2, 1) := by decide +kernel
theorem dL_law_232 : decode code 232 = .ok (.aload_n 0, 1) := by decide +kernel
theorem dL_law_233 : decode code 233 = .ok (.iload_n 3, 1) := by decide +kernel
theorem dL_law_234 : decode code 234 = .ok (.iconst 1, 1) := by decide +kernel
theorem dL_law_235 : decode code 235 = .ok (.iadd, 1) := by decide +kernel
theorem dL_law_236 : decode code 236 = .ok (.iaload, 1) := by decide +kernel
theorem dL_law_237 : decode code 237 = .ok (.aload_n 0, 1) := by decide +kernel
theorem dL_law_238 : decode code 238 = .ok (.iload_n 3, 1) := by decide +kernel
theorem dL_law_239 : decode code 239 = .ok (.iconst 2, 1) := by decide +kernel
theorem dL_law_240 : decode code 240 = .ok (.iadd, 1) := by decide +kernel
theorem dL_law_241 : decode code 241 = .ok (.iaload, 1) := by decide +kernel
theorem dL_law_242 : decode code 242 = .ok (.aload_n 0, 1) := by decide +kernel
theorem dL_law_243 : decode code 243 = .ok (.iload_n 3, 1) := by decide +kernel
theorem dL_law_244 : decode code 244 = .ok (.iconst 3, 1) := by decide +kernel
theorem dL_law_245 : decode code 245 = .ok (.iadd, 1) := by decide +kernel
theorem dL_law_246 : decode code 246 = .ok (.iaload, 1) := by decide +kernel
theorem dL_law_247 : decode code 247 = .ok (.i2l, 1) := by decide +kernel
theorem dL_law_248 : decode code 248 = .ok (.bipush 32, 2) := by decide +kernel
theorem dL_law_250 : decode code 250 = .ok (.lshl, 1) := by decide +kernel
theorem dL_law_251 : decode code 251 = .ok (.aload_n 0, 1) := by decide +kernel
theorem dL_law_252 : decode code 252 = .ok (.iload_n 3, 1) := by decide +kernel
theorem dL_law_253 : decode code 253 = .ok (.iconst 4, 1) := by decide +kernel
theorem dL_law_254 : decode code 254 = .ok (.iadd, 1) := by decide +kernel
theorem dL_law_255 : decode code 255 = .ok (.iaload, 1) := by decide +kernel
theorem dL_law_256 : decode code 256 = .ok (.i2l, 1) := by decide +kernel
theorem dL_law_257 : decode code 257 = .ok (.ldc2_w 13, 3) := by decide +kernel
theorem dL_law_260 : decode code 260 = .ok (.land, 1) := by decide +kernel
theorem dL_law_261 : decode code 261 = .ok (.lor, 1) := by decide +kernel
theorem dL_law_262 : decode code 262 = .ok (.invokevirtual 23, 3) := by decide +kernel
theorem dL_law_265 : decode code 265 = .ok (.if_icmp .eq 634, 3) := by decide +kernel
theorem dL_law_268 : decode code 268 = .ok (.iconst 0, 1) := by decide +kernel
theorem dL_law_269 : decode code 269 = .ok (.ireturn, 1) := by decide +kernel
theorem dL_law_270 : decode code 270 = .ok (.aload_n 1, 1) := by decide +kernel
theorem dL_law_271 : decode code 271 = .ok (.aload_n 0, 1) := by decide +kernel
theorem dL_law_272 : decode code 272 = .ok (.iload_n 3, 1) := by decide +kernel
theorem dL_law_273 : decode code 273 = .ok (.iconst 1, 1) := by decide +kernel
theorem dL_law_274 : decode code 274 = .ok (.iadd, 1) := by decide +kernel
theorem dL_law_275 : decode code 275 = .ok (.iaload, 1) := by decide +kernel
theorem dL_law_276 : decode code 276 = .ok (.aload_n 0, 1) := by decide +kernel
theorem dL_law_277 : decode code 277 = .ok (.iload_n 3, 1) := by decide +kernel
theorem dL_law_278 : decode code 278 = .ok (.iconst 2, 1) := by decide +kernel
theorem dL_law_279 : decode code 279 = .ok (.iadd, 1) := by decide +kernel
theorem dL_law_280 : decode code 280 = .ok (.iaload, 1) := by decide +kernel
theorem dL_law_281 : decode code 281 = .ok (.invokevirtual 24, 3) := by decide +kernel
theorem dL_law_284 : decode code 284 = .ok (.aload_n 2, 1) := by decide +kernel
theorem dL_law_285 : decode code 285 = .ok (.aload_n 0, 1) := by decide +kernel
theorem dL_law_286 : decode code 286 = .ok (.iload_n 3, 1) := by decide +kernel
theorem dL_law_287 : decode code 287 = .ok (.iconst 1, 1) := by decide +kernel
theorem dL_law_288 : decode code 288 = .ok (.iadd, 1) := by decide +kernel
theorem dL_law_289 : decode code 289 = .ok (.iaload, 1) := by decide +kernel
theorem dL_law_290 : decode code 290 = .ok (.aload_n 0, 1) := by decide +kernel
theorem dL_law_291 : decode code 291 = .ok (.iload_n 3, 1) := by decide +kernel
theorem dL_law_292 : decode code 292 = .ok (.iconst 2, 1) := by decide +kernel
theorem dL_law_293 : decode code 293 = .ok (.iadd, 1) := by decide +kernel
theorem dL_law_294 : decode code 294 = .ok (.iaload, 1) := by decide +kernel
theorem dL_law_295 : decode code 295 = .ok (.invokevirtual 28, 3) := by decide +kernel
theorem dL_law_298 : decode code 298 = .ok (.if_icmp .eq 601, 3) := by decide +kernel
theorem dL_law_301 : decode code 301 = .ok (.iconst 0, 1) := by decide +kernel
theorem dL_law_302 : decode code 302 = .ok (.ireturn, 1) := by decide +kernel
theorem dL_law_303 : decode code 303 = .ok (.aload_n 1, 1) := by decide +kernel
theorem dL_law_304 : decode code 304 = .ok (.aload_n 0, 1) := by decide +kernel
theorem dL_law_305 : decode code 305 = .ok (.iload_n 3, 1) := by decide +kernel
theorem dL_law_306 : decode code 306 = .ok (.iconst 1, 1) := by decide +kernel
theorem dL_law_307 : decode code 307 = .ok (.iadd, 1) := by decide +kernel
theorem dL_law_308 : decode code 308 = .ok (.iaload, 1) := by decide +kernel
theorem dL_law_309 : decode code 309 = .ok (.aload_n 0, 1) := by decide +kernel
theorem dL_law_310 : decode code 310 = .ok (.iload_n 3, 1) := by decide +kernel
theorem dL_law_311 : decode code 311 = .ok (.iconst 2, 1) := by decide +kernel
theorem dL_law_312 : decode code 312 = .ok (.iadd, 1) := by decide +kernel
theorem dL_law_313 : decode code 313 = .ok (.iaload, 1) := by decide +kernel
theorem dL_law_314 : decode code 314 = .ok (.invokevirtual 29, 3) := by decide +kernel
theorem dL_law_317 : decode code 317 = .ok (.aload_n 2, 1) := by decide +kernel
theorem dL_law_318 : decode code 318 = .ok (.aload_n 0, 1) := by decide +kernel
theorem dL_law_319 : decode code 319 = .ok (.iload_n 3, 1) := by decide +kernel
theorem dL_law_320 : decode code 320 = .ok (.iconst 1, 1) := by decide +kernel
theorem dL_law_321 : decode code 321 = .ok (.iadd, 1) := by decide +kernel
theorem dL_law_322 : decode code 322 = .ok (.iaload, 1) := by decide +kernel
theorem dL_law_323 : decode code 323 = .ok (.aload_n 0, 1) := by decide +kernel
theorem dL_law_324 : decode code 324 = .ok (.iload_n 3, 1) := by decide +kernel
theorem dL_law_325 : decode code 325 = .ok (.iconst 2, 1) := by decide +kernel
theorem dL_law_326 : decode code 326 = .ok (.iadd, 1) := by decide +kernel
theorem dL_law_327 : decode code 327 = .ok (.iaload, 1) := by decide +kernel
theorem dL_law_328 : decode code 328 = .ok (.invokevirtual 33, 3) := by decide +kernel
theorem dL_law_331 : decode code 331 = .ok (.if_icmp .eq 568, 3) := by decide +kernel
theorem dL_law_334 : decode code 334 = .ok (.iconst 0, 1) := by decide +kernel
theorem dL_law_335 : decode code 335 = .ok (.ireturn, 1) := by decide +kernel
theorem dL_law_336 : decode code 336 = .ok (.aload_n 1, 1) := by decide +kernel
theorem dL_law_337 : decode code 337 = .ok (.aload_n 0, 1) := by decide +kernel
theorem dL_law_338 : decode code 338 = .ok (.iload_n 3, 1) := by decide +kernel
theorem dL_law_339 : decode code 339 = .ok (.iconst 1, 1) := by decide +kernel
theorem dL_law_340 : decode code 340 = .ok (.iadd, 1) := by decide +kernel
theorem dL_law_341 : decode code 341 = .ok (.iaload, 1) := by decide +kernel
theorem dL_law_342 : decode code 342 = .ok (.aload_n 0, 1) := by decide +kernel
theorem dL_law_343 : decode code 343 = .ok (.iload_n 3, 1) := by decide +kernel
theorem dL_law_344 : decode code 344 = .ok (.iconst 2, 1) := by decide +kernel
theorem dL_law_345 : decode code 345 = .ok (.iadd, 1) := by decide +kernel
theorem dL_law_346 : decode code 346 = .ok (.iaload, 1) := by decide +kernel
theorem dL_law_347 : decode code 347 = .ok (.aload_n 0, 1) := by decide +kernel
theorem dL_law_348 : decode code 348 = .ok (.iload_n 3, 1) := by decide +kernel
theorem dL_law_349 : decode code 349 = .ok (.iconst 3, 1) := by decide +kernel
theorem dL_law_350 : decode code 350 = .ok (.iadd, 1) := by decide +kernel
theorem dL_law_351 : decode code 351 = .ok (.iaload, 1) := by decide +kernel
theorem dL_law_352 : decode code 352 = .ok (.invokevirtual 34, 3) := by decide +kernel
theorem dL_law_355 : decode code 355 = .ok (.aload_n 2, 1) := by decide +kernel
theorem dL_law_356 : decode code 356 = .ok (.aload_n 0, 1) := by decide +kernel
theorem dL_law_357 : decode code 357 = .ok (.iload_n 3, 1) := by decide +kernel
theorem dL_law_358 : decode code 358 = .ok (.iconst 1, 1) := by decide +kernel
theorem dL_law_359 : decode code 359 = .ok (.iadd, 1) := by decide +kernel
theorem dL_law_360 : decode code 360 = .ok (.iaload, 1) := by decide +kernel
theorem dL_law_361 : decode code 361 = .ok (.aload_n 0, 1) := by decide +kernel
theorem dL_law_362 : decode code 362 = .ok (.iload_n 3, 1) := by decide +kernel
theorem dL_law_363 : decode code 363 = .ok (.iconst 2, 1) := by decide +kernel
theorem dL_law_364 : decode code 364 = .ok (.iadd, 1) := by decide +kernel
theorem dL_law_365 : decode code 365 = .ok (.iaload, 1) := by decide +kernel
theorem dL_law_366 : decode code 366 = .ok (.aload_n 0, 1) := by decide +kernel
theorem dL_law_367 : decode code 367 = .ok (.iload_n 3, 1) := by decide +kernel
theorem dL_law_368 : decode code 368 = .ok (.iconst 3, 1) := by decide +kernel
theorem dL_law_369 : decode code 369 = .ok (.iadd, 1) := by decide +kernel
theorem dL_law_370 : decode code 370 = .ok (.iaload, 1) := by decide +kernel
theorem dL_law_371 : decode code 371 = .ok (.invokevirtual 38, 3) := by decide +kernel
theorem dL_law_374 : decode code 374 = .ok (.if_icmp .eq 525, 3) := by decide +kernel
theorem dL_law_377 : decode code 377 = .ok (.iconst 0, 1) := by decide +kernel
theorem dL_law_378 : decode code 378 = .ok (.ireturn, 1) := by decide +kernel
theorem dL_law_379 : decode code 379 = .ok (.aload_n 1, 1) := by decide +kernel
theorem dL_law_380 : decode code 380 = .ok (.aload_n 0, 1) := by decide +kernel
theorem dL_law_381 : decode code 381 = .ok (.iload_n 3, 1) := by decide +kernel
theorem dL_law_382 : decode code 382 = .ok (.iconst 1, 1) := by decide +kernel
theorem dL_law_383 : decode code 383 = .ok (.iadd, 1) := by decide +kernel
theorem dL_law_384 : decode code 384 = .ok (.iaload, 1) := by decide +kernel
theorem dL_law_385 : decode code 385 = .ok (.aload_n 0, 1) := by decide +kernel
theorem dL_law_386 : decode code 386 = .ok (.iload_n 3, 1) := by decide +kernel
theorem dL_law_387 : decode code 387 = .ok (.iconst 2, 1) := by decide +kernel
theorem dL_law_388 : decode code 388 = .ok (.iadd, 1) := by decide +kernel
theorem dL_law_389 : decode code 389 = .ok (.iaload, 1) := by decide +kernel
theorem dL_law_390 : decode code 390 = .ok (.aload_n 0, 1) := by decide +kernel
theorem dL_law_391 : decode code 391 = .ok (.iload_n 3, 1) := by decide +kernel
theorem dL_law_392 : decode code 392 = .ok (.iconst 3, 1) := by decide +kernel
theorem dL_law_393 : decode code 393 = .ok (.iadd, 1) := by decide +kernel
theorem dL_law_394 : decode code 394 = .ok (.iaload, 1) := by decide +kernel
theorem dL_law_395 : decode code 395 = .ok (.aload_n 0, 1) := by decide +kernel
theorem dL_law_396 : decode code 396 = .ok (.iload_n 3, 1) := by decide +kernel
theorem dL_law_397 : decode code 397 = .ok (.iconst 4, 1) := by decide +kernel
theorem dL_law_398 : decode code 398 = .ok (.iadd, 1) := by decide +kernel
theorem dL_law_399 : decode code 399 = .ok (.iaload, 1) := by decide +kernel
theorem dL_law_400 : decode code 400 = .ok (.ifCond .eq 7, 3) := by decide +kernel
theorem dL_law_403 : decode code 403 = .ok (.iconst 1, 1) := by decide +kernel
theorem dL_law_404 : decode code 404 = .ok (.goto 4, 3) := by decide +kernel
theorem dL_law_407 : decode code 407 = .ok (.iconst 0, 1) := by decide +kernel
theorem dL_law_408 : decode code 408 = .ok (.invokevirtual 39, 3) := by decide +kernel
theorem dL_law_411 : decode code 411 = .ok (.aload_n 2, 1) := by decide +kernel
theorem dL_law_412 : decode code 412 = .ok (.aload_n 0, 1) := by decide +kernel
theorem dL_law_413 : decode code 413 = .ok (.iload_n 3, 1) := by decide +kernel
theorem dL_law_414 : decode code 414 = .ok (.iconst 1, 1) := by decide +kernel
theorem dL_law_415 : decode code 415 = .ok (.iadd, 1) := by decide +kernel
theorem dL_law_416 : decode code 416 = .ok (.iaload, 1) := by decide +kernel
theorem dL_law_417 : decode code 417 = .ok (.aload_n 0, 1) := by decide +kernel
theorem dL_law_418 : decode code 418 = .ok (.iload_n 3, 1) := by decide +kernel
theorem dL_law_419 : decode code 419 = .ok (.iconst 2, 1) := by decide +kernel
theorem dL_law_420 : decode code 420 = .ok (.iadd, 1) := by decide +kernel
theorem dL_law_421 : decode code 421 = .ok (.iaload, 1) := by decide +kernel
theorem dL_law_422 : decode code 422 = .ok (.aload_n 0, 1) := by decide +kernel
theorem dL_law_423 : decode code 423 = .ok (.iload_n 3, 1) := by decide +kernel
theorem dL_law_424 : decode code 424 = .ok (.iconst 3, 1) := by decide +kernel
theorem dL_law_425 : decode code 425 = .ok (.iadd, 1) := by decide +kernel
theorem dL_law_426 : decode code 426 = .ok (.iaload, 1) := by decide +kernel
theorem dL_law_427 : decode code 427 = .ok (.aload_n 0, 1) := by decide +kernel
theorem dL_law_428 : decode code 428 = .ok (.iload_n 3, 1) := by decide +kernel
theorem dL_law_429 : decode code 429 = .ok (.iconst 4, 1) := by decide +kernel
theorem dL_law_430 : decode code 430 = .ok (.iadd, 1) := by decide +kernel
theorem dL_law_431 : decode code 431 = .ok (.iaload, 1) := by decide +kernel
theorem dL_law_432 : decode code 432 = .ok (.ifCond .eq 7, 3) := by decide +kernel
theorem dL_law_435 : decode code 435 = .ok (.iconst 1, 1) := by decide +kernel
theorem dL_law_436 : decode code 436 = .ok (.goto 4, 3) := by decide +kernel
theorem dL_law_439 : decode code 439 = .ok (.iconst 0, 1) := by decide +kernel
theorem dL_law_440 : decode code 440 = .ok (.invokevirtual 43, 3) := by decide +kernel
theorem dL_law_443 : decode code 443 = .ok (.if_icmp .eq 456, 3) := by decide +kernel
theorem dL_law_446 : decode code 446 = .ok (.iconst 0, 1) := by decide +kernel
theorem dL_law_447 : decode code 447 = .ok (.ireturn, 1) := by decide +kernel
theorem dL_law_448 : decode code 448 = .ok (.aload_n 1, 1) := by decide +kernel
theorem dL_law_449 : decode code 449 = .ok (.aload_n 0, 1) := by decide +kernel
theorem dL_law_450 : decode code 450 = .ok (.iload_n 3, 1) := by decide +kernel
theorem dL_law_451 : decode code 451 = .ok (.iconst 1, 1) := by decide +kernel
theorem dL_law_452 : decode code 452 = .ok (.iadd, 1) := by decide +kernel
theorem dL_law_453 : decode code 453 = .ok (.iaload, 1) := by decide +kernel
theorem dL_law_454 : decode code 454 = .ok (.aload_n 0, 1) := by decide +kernel
theorem dL_law_455 : decode code 455 = .ok (.iload_n 3, 1) := by decide +kernel
theorem dL_law_456 : decode code 456 = .ok (.iconst 2, 1) := by decide +kernel
theorem dL_law_457 : decode code 457 = .ok (.iadd, 1) := by decide +kernel
theorem dL_law_458 : decode code 458 = .ok (.iaload, 1) := by decide +kernel
theorem dL_law_459 : decode code 459 = .ok (.i2l, 1) := by decide +kernel
theorem dL_law_460 : decode code 460 = .ok (.bipush 32, 2) := by decide +kernel
theorem dL_law_462 : decode code 462 = .ok (.lshl, 1) := by decide +kernel
theorem dL_law_463 : decode code 463 = .ok (.aload_n 0, 1) := by decide +kernel
theorem dL_law_464 : decode code 464 = .ok (.iload_n 3, 1) := by decide +kernel
theorem dL_law_465 : decode code 465 = .ok (.iconst 3, 1) := by decide +kernel
theorem dL_law_466 : decode code 466 = .ok (.iadd, 1) := by decide +kernel
theorem dL_law_467 : decode code 467 = .ok (.iaload, 1) := by decide +kernel
theorem dL_law_468 : decode code 468 = .ok (.i2l, 1) := by decide +kernel
theorem dL_law_469 : decode code 469 = .ok (.ldc2_w 13, 3) := by decide +kernel
theorem dL_law_472 : decode code 472 = .ok (.land, 1) := by decide +kernel
theorem dL_law_473 : decode code 473 = .ok (.lor, 1) := by decide +kernel
theorem dL_law_474 : decode code 474 = .ok (.invokevirtual 44, 3) := by decide +kernel
theorem dL_law_477 : decode code 477 = .ok (.aload_n 2, 1) := by decide +kernel
theorem dL_law_478 : decode code 478 = .ok (.aload_n 0, 1) := by decide +kernel
theorem dL_law_479 : decode code 479 = .ok (.iload_n 3, 1) := by decide +kernel
theorem dL_law_480 : decode code 480 = .ok (.iconst 1, 1) := by decide +kernel
theorem dL_law_481 : decode code 481 = .ok (.iadd, 1) := by decide +kernel
theorem dL_law_482 : decode code 482 = .ok (.iaload, 1) := by decide +kernel
theorem dL_law_483 : decode code 483 = .ok (.aload_n 0, 1) := by decide +kernel
theorem dL_law_484 : decode code 484 = .ok (.iload_n 3, 1) := by decide +kernel
theorem dL_law_485 : decode code 485 = .ok (.iconst 2, 1) := by decide +kernel
theorem dL_law_486 : decode code 486 = .ok (.iadd, 1) := by decide +kernel
theorem dL_law_487 : decode code 487 = .ok (.iaload, 1) := by decide +kernel
theorem dL_law_488 : decode code 488 = .ok (.i2l, 1) := by decide +kernel
theorem dL_law_489 : decode code 489 = .ok (.bipush 32, 2) := by decide +kernel
theorem dL_law_491 : decode code 491 = .ok (.lshl, 1) := by decide +kernel
theorem dL_law_492 : decode code 492 = .ok (.aload_n 0, 1) := by decide +kernel
theorem dL_law_493 : decode code 493 = .ok (.iload_n 3, 1) := by decide +kernel
theorem dL_law_494 : decode code 494 = .ok (.iconst 3, 1) := by decide +kernel
theorem dL_law_495 : decode code 495 = .ok (.iadd, 1) := by decide +kernel
theorem dL_law_496 : decode code 496 = .ok (.iaload, 1) := by decide +kernel
theorem dL_law_497 : decode code 497 = .ok (.i2l, 1) := by decide +kernel
theorem dL_law_498 : decode code 498 = .ok (.ldc2_w 13, 3) := by decide +kernel
theorem dL_law_501 : decode code 501 = .ok (.land, 1) := by decide +kernel
theorem dL_law_502 : decode code 502 = .ok (.lor, 1) := by decide +kernel
theorem dL_law_503 : decode code 503 = .ok (.invokevirtual 48, 3) := by decide +kernel
theorem dL_law_506 : decode code 506 = .ok (.if_icmp .eq 393, 3) := by decide +kernel
theorem dL_law_509 : decode code 509 = .ok (.iconst 0, 1) := by decide +kernel
theorem dL_law_510 : decode code 510 = .ok (.ireturn, 1) := by decide +kernel
theorem dL_law_511 : decode code 511 = .ok (.aload_n 1, 1) := by decide +kernel
theorem dL_law_512 : decode code 512 = .ok (.aload_n 0, 1) := by decide +kernel
theorem dL_law_513 : decode code 513 = .ok (.iload_n 3, 1) := by decide +kernel
theorem dL_law_514 : decode code 514 = .ok (.iconst 1, 1) := by decide +kernel
theorem dL_law_515 : decode code 515 = .ok (.iadd, 1) := by decide +kernel
theorem dL_law_516 : decode code 516 = .ok (.iaload, 1) := by decide +kernel
theorem dL_law_517 : decode code 517 = .ok (.aload_n 0, 1) := by decide +kernel
theorem dL_law_518 : decode code 518 = .ok (.iload_n 3, 1) := by decide +kernel
theorem dL_law_519 : decode code 519 = .ok (.iconst 2, 1) := by decide +kernel
theorem dL_law_520 : decode code 520 = .ok (.iadd, 1) := by decide +kernel
theorem dL_law_521 : decode code 521 = .ok (.iaload, 1) := by decide +kernel
theorem dL_law_522 : decode code 522 = .ok (.invokevirtual 49, 3) := by decide +kernel
theorem dL_law_525 : decode code 525 = .ok (.aload_n 2, 1) := by decide +kernel
theorem dL_law_526 : decode code 526 = .ok (.aload_n 0, 1) := by decide +kernel
theorem dL_law_527 : decode code 527 = .ok (.iload_n 3, 1) := by decide +kernel
theorem dL_law_528 : decode code 528 = .ok (.iconst 1, 1) := by decide +kernel
theorem dL_law_529 : decode code 529 = .ok (.iadd, 1) := by decide +kernel
theorem dL_law_530 : decode code 530 = .ok (.iaload, 1) := by decide +kernel
theorem dL_law_531 : decode code 531 = .ok (.aload_n 0, 1) := by decide +kernel
theorem dL_law_532 : decode code 532 = .ok (.iload_n 3, 1) := by decide +kernel
theorem dL_law_533 : decode code 533 = .ok (.iconst 2, 1) := by decide +kernel
theorem dL_law_534 : decode code 534 = .ok (.iadd, 1) := by decide +kernel
theorem dL_law_535 : decode code 535 = .ok (.iaload, 1) := by decide +kernel
theorem dL_law_536 : decode code 536 = .ok (.invokevirtual 52, 3) := by decide +kernel
theorem dL_law_539 : decode code 539 = .ok (.if_icmp .eq 360, 3) := by decide +kernel
theorem dL_law_542 : decode code 542 = .ok (.iconst 0, 1) := by decide +kernel
theorem dL_law_543 : decode code 543 = .ok (.ireturn, 1) := by decide +kernel
theorem dL_law_544 : decode code 544 = .ok (.aload_n 1, 1) := by decide +kernel
theorem dL_law_545 : decode code 545 = .ok (.aload_n 0, 1) := by decide +kernel
theorem dL_law_546 : decode code 546 = .ok (.iload_n 3, 1) := by decide +kernel
theorem dL_law_547 : decode code 547 = .ok (.iconst 1, 1) := by decide +kernel
theorem dL_law_548 : decode code 548 = .ok (.iadd, 1) := by decide +kernel
theorem dL_law_549 : decode code 549 = .ok (.iaload, 1) := by decide +kernel
theorem dL_law_550 : decode code 550 = .ok (.aload_n 0, 1) := by decide +kernel
theorem dL_law_551 : decode code 551 = .ok (.iload_n 3, 1) := by decide +kernel
theorem dL_law_552 : decode code 552 = .ok (.iconst 2, 1) := by decide +kernel
theorem dL_law_553 : decode code 553 = .ok (.iadd, 1) := by decide +kernel
theorem dL_law_554 : decode code 554 = .ok (.iaload, 1) := by decide +kernel
theorem dL_law_555 : decode code 555 = .ok (.invokevirtual 53, 3) := by decide +kernel
theorem dL_law_558 : decode code 558 = .ok (.aload_n 2, 1) := by decide +kernel
theorem dL_law_559 : decode code 559 = .ok (.aload_n 0, 1) := by decide +kernel
theorem dL_law_560 : decode code 560 = .ok (.iload_n 3, 1) := by decide +kernel
theorem dL_law_561 : decode code 561 = .ok (.iconst 1, 1) := by decide +kernel
theorem dL_law_562 : decode code 562 = .ok (.iadd, 1) := by decide +kernel
theorem dL_law_563 : decode code 563 = .ok (.iaload, 1) := by decide +kernel
theorem dL_law_564 : decode code 564 = .ok (.aload_n 0, 1) := by decide +kernel
theorem dL_law_565 : decode code 565 = .ok (.iload_n 3, 1) := by decide +kernel
theorem dL_law_566 : decode code 566 = .ok (.iconst 2, 1) := by decide +kernel
theorem dL_law_567 : decode code 567 = .ok (.iadd, 1) := by decide +kernel
theorem dL_law_568 : decode code 568 = .ok (.iaload, 1) := by decide +kernel
theorem dL_law_569 : decode code 569 = .ok (.invokevirtual 56, 3) := by decide +kernel
theorem dL_law_572 : decode code 572 = .ok (.if_icmp .eq 327, 3) := by decide +kernel
theorem dL_law_575 : decode code 575 = .ok (.iconst 0, 1) := by decide +kernel
theorem dL_law_576 : decode code 576 = .ok (.ireturn, 1) := by decide +kernel
theorem dL_law_577 : decode code 577 = .ok (.aload_n 1, 1) := by decide +kernel
theorem dL_law_578 : decode code 578 = .ok (.aload_n 0, 1) := by decide +kernel
theorem dL_law_579 : decode code 579 = .ok (.iload_n 3, 1) := by decide +kernel
theorem dL_law_580 : decode code 580 = .ok (.iconst 1, 1) := by decide +kernel
theorem dL_law_581 : decode code 581 = .ok (.iadd, 1) := by decide +kernel
theorem dL_law_582 : decode code 582 = .ok (.iaload, 1) := by decide +kernel
theorem dL_law_583 : decode code 583 = .ok (.aload_n 0, 1) := by decide +kernel
theorem dL_law_584 : decode code 584 = .ok (.iload_n 3, 1) := by decide +kernel
theorem dL_law_585 : decode code 585 = .ok (.iconst 2, 1) := by decide +kernel
theorem dL_law_586 : decode code 586 = .ok (.iadd, 1) := by decide +kernel
theorem dL_law_587 : decode code 587 = .ok (.iaload, 1) := by decide +kernel
theorem dL_law_588 : decode code 588 = .ok (.invokevirtual 57, 3) := by decide +kernel
theorem dL_law_591 : decode code 591 = .ok (.aload_n 2, 1) := by decide +kernel
theorem dL_law_592 : decode code 592 = .ok (.aload_n 0, 1) := by decide +kernel
theorem dL_law_593 : decode code 593 = .ok (.iload_n 3, 1) := by decide +kernel
theorem dL_law_594 : decode code 594 = .ok (.iconst 1, 1) := by decide +kernel
theorem dL_law_595 : decode code 595 = .ok (.iadd, 1) := by decide +kernel
theorem dL_law_596 : decode code 596 = .ok (.iaload, 1) := by decide +kernel
theorem dL_law_597 : decode code 597 = .ok (.aload_n 0, 1) := by decide +kernel
theorem dL_law_598 : decode code 598 = .ok (.iload_n 3, 1) := by decide +kernel
theorem dL_law_599 : decode code 599 = .ok (.iconst 2, 1) := by decide +kernel
theorem dL_law_600 : decode code 600 = .ok (.iadd, 1) := by decide +kernel
theorem dL_law_601 : decode code 601 = .ok (.iaload, 1) := by decide +kernel
theorem dL_law_602 : decode code 602 = .ok (.invokevirtual 61, 3) := by decide +kernel
theorem dL_law_605 : decode code 605 = .ok (.lcmp, 1) := by decide +kernel
theorem dL_law_606 : decode code 606 = .ok (.ifCond .eq 293, 3) := by decide +kernel
theorem dL_law_609 : decode code 609 = .ok (.iconst 0, 1) := by decide +kernel
theorem dL_law_610 : decode code 610 = .ok (.ireturn, 1) := by decide +kernel
theorem dL_law_611 : decode code 611 = .ok (.aload_n 1, 1) := by decide +kernel
theorem dL_law_612 : decode code 612 = .ok (.aload_n 0, 1) := by decide +kernel
theorem dL_law_613 : decode code 613 = .ok (.iload_n 3, 1) := by decide +kernel
theorem dL_law_614 : decode code 614 = .ok (.iconst 1, 1) := by decide +kernel
theorem dL_law_615 : decode code 615 = .ok (.iadd, 1) := by decide +kernel
theorem dL_law_616 : decode code 616 = .ok (.iaload, 1) := by decide +kernel
theorem dL_law_617 : decode code 617 = .ok (.aload_n 0, 1) := by decide +kernel
theorem dL_law_618 : decode code 618 = .ok (.iload_n 3, 1) := by decide +kernel
theorem dL_law_619 : decode code 619 = .ok (.iconst 2, 1) := by decide +kernel
theorem dL_law_620 : decode code 620 = .ok (.iadd, 1) := by decide +kernel
theorem dL_law_621 : decode code 621 = .ok (.iaload, 1) := by decide +kernel
theorem dL_law_622 : decode code 622 = .ok (.invokevirtual 62, 3) := by decide +kernel
theorem dL_law_625 : decode code 625 = .ok (.aload_n 2, 1) := by decide +kernel
theorem dL_law_626 : decode code 626 = .ok (.aload_n 0, 1) := by decide +kernel
theorem dL_law_627 : decode code 627 = .ok (.iload_n 3, 1) := by decide +kernel
theorem dL_law_628 : decode code 628 = .ok (.iconst 1, 1) := by decide +kernel
theorem dL_law_629 : decode code 629 = .ok (.iadd, 1) := by decide +kernel
theorem dL_law_630 : decode code 630 = .ok (.iaload, 1) := by decide +kernel
theorem dL_law_631 : decode code 631 = .ok (.aload_n 0, 1) := by decide +kernel
theorem dL_law_632 : decode code 632 = .ok (.iload_n 3, 1) := by decide +kernel
theorem dL_law_633 : decode code 633 = .ok (.iconst 2, 1) := by decide +kernel
theorem dL_law_634 : decode code 634 = .ok (.iadd, 1) := by decide +kernel
theorem dL_law_635 : decode code 635 = .ok (.iaload, 1) := by decide +kernel
theorem dL_law_636 : decode code 636 = .ok (.invokevirtual 65, 3) := by decide +kernel
theorem dL_law_639 : decode code 639 = .ok (.if_icmp .eq 260, 3) := by decide +kernel
theorem dL_law_642 : decode code 642 = .ok (.iconst 0, 1) := by decide +kernel
theorem dL_law_643 : decode code 643 = .ok (.ireturn, 1) := by decide +kernel
theorem dL_law_644 : decode code 644 = .ok (.aload_n 1, 1) := by decide +kernel
theorem dL_law_645 : decode code 645 = .ok (.aload_n 0, 1) := by decide +kernel
theorem dL_law_646 : decode code 646 = .ok (.iload_n 3, 1) := by decide +kernel
theorem dL_law_647 : decode code 647 = .ok (.iconst 1, 1) := by decide +kernel
theorem dL_law_648 : decode code 648 = .ok (.iadd, 1) := by decide +kernel
theorem dL_law_649 : decode code 649 = .ok (.iaload, 1) := by decide +kernel
theorem dL_law_650 : decode code 650 = .ok (.aload_n 0, 1) := by decide +kernel
theorem dL_law_651 : decode code 651 = .ok (.iload_n 3, 1) := by decide +kernel
theorem dL_law_652 : decode code 652 = .ok (.iconst 2, 1) := by decide +kernel
theorem dL_law_653 : decode code 653 = .ok (.iadd, 1) := by decide +kernel
theorem dL_law_654 : decode code 654 = .ok (.iaload, 1) := by decide +kernel
theorem dL_law_655 : decode code 655 = .ok (.invokevirtual 66, 3) := by decide +kernel
theorem dL_law_658 : decode code 658 = .ok (.aload_n 2, 1) := by decide +kernel
theorem dL_law_659 : decode code 659 = .ok (.aload_n 0, 1) := by decide +kernel
theorem dL_law_660 : decode code 660 = .ok (.iload_n 3, 1) := by decide +kernel
theorem dL_law_661 : decode code 661 = .ok (.iconst 1, 1) := by decide +kernel
theorem dL_law_662 : decode code 662 = .ok (.iadd, 1) := by decide +kernel
theorem dL_law_663 : decode code 663 = .ok (.iaload, 1) := by decide +kernel
theorem dL_law_664 : decode code 664 = .ok (.aload_n 0, 1) := by decide +kernel
theorem dL_law_665 : decode code 665 = .ok (.iload_n 3, 1) := by decide +kernel
theorem dL_law_666 : decode code 666 = .ok (.iconst 2, 1) := by decide +kernel
theorem dL_law_667 : decode code 667 = .ok (.iadd, 1) := by decide +kernel
theorem dL_law_668 : decode code 668 = .ok (.iaload, 1) := by decide +kernel
theorem dL_law_669 : decode code 669 = .ok (.invokevirtual 69, 3) := by decide +kernel
theorem dL_law_672 : decode code 672 = .ok (.if_icmp .eq 227, 3) := by decide +kernel
theorem dL_law_675 : decode code 675 = .ok (.iconst 0, 1) := by decide +kernel
theorem dL_law_676 : decode code 676 = .ok (.ireturn, 1) := by decide +kernel
theorem dL_law_677 : decode code 677 = .ok (.aload_n 1, 1) := by decide +kernel
theorem dL_law_678 : decode code 678 = .ok (.aload_n 0, 1) := by decide +kernel
theorem dL_law_679 : decode code 679 = .ok (.iload_n 3, 1) := by decide +kernel
theorem dL_law_680 : decode code 680 = .ok (.iconst 1, 1) := by decide +kernel
theorem dL_law_681 : decode code 681 = .ok (.iadd, 1) := by decide +kernel
theorem dL_law_682 : decode code 682 = .ok (.iaload, 1) := by decide +kernel
theorem dL_law_683 : decode code 683 = .ok (.invokevirtual 70, 3) := by decide +kernel
theorem dL_law_686 : decode code 686 = .ok (.aload_n 2, 1) := by decide +kernel
theorem dL_law_687 : decode code 687 = .ok (.aload_n 0, 1) := by decide +kernel
theorem dL_law_688 : decode code 688 = .ok (.iload_n 3, 1) := by decide +kernel
theorem dL_law_689 : decode code 689 = .ok (.iconst 1, 1) := by decide +kernel
theorem dL_law_690 : decode code 690 = .ok (.iadd, 1) := by decide +kernel
theorem dL_law_691 : decode code 691 = .ok (.iaload, 1) := by decide +kernel
theorem dL_law_692 : decode code 692 = .ok (.invokevirtual 74, 3) := by decide +kernel
theorem dL_law_695 : decode code 695 = .ok (.if_icmp .eq 204, 3) := by decide +kernel
theorem dL_law_698 : decode code 698 = .ok (.iconst 0, 1) := by decide +kernel
theorem dL_law_699 : decode code 699 = .ok (.ireturn, 1) := by decide +kernel
theorem dL_law_700 : decode code 700 = .ok (.aload_n 1, 1) := by decide +kernel
theorem dL_law_701 : decode code 701 = .ok (.aload_n 0, 1) := by decide +kernel
theorem dL_law_702 : decode code 702 = .ok (.iload_n 3, 1) := by decide +kernel
theorem dL_law_703 : decode code 703 = .ok (.iconst 1, 1) := by decide +kernel
theorem dL_law_704 : decode code 704 = .ok (.iadd, 1) := by decide +kernel
theorem dL_law_705 : decode code 705 = .ok (.iaload, 1) := by decide +kernel
theorem dL_law_706 : decode code 706 = .ok (.aload_n 0, 1) := by decide +kernel
theorem dL_law_707 : decode code 707 = .ok (.iload_n 3, 1) := by decide +kernel
theorem dL_law_708 : decode code 708 = .ok (.iconst 2, 1) := by decide +kernel
theorem dL_law_709 : decode code 709 = .ok (.iadd, 1) := by decide +kernel
theorem dL_law_710 : decode code 710 = .ok (.iaload, 1) := by decide +kernel
theorem dL_law_711 : decode code 711 = .ok (.aload_n 0, 1) := by decide +kernel
theorem dL_law_712 : decode code 712 = .ok (.iload_n 3, 1) := by decide +kernel
theorem dL_law_713 : decode code 713 = .ok (.iconst 3, 1) := by decide +kernel
theorem dL_law_714 : decode code 714 = .ok (.iadd, 1) := by decide +kernel
theorem dL_law_715 : decode code 715 = .ok (.iaload, 1) := by decide +kernel
theorem dL_law_716 : decode code 716 = .ok (.invokevirtual 75, 3) := by decide +kernel
theorem dL_law_719 : decode code 719 = .ok (.aload_n 2, 1) := by decide +kernel
theorem dL_law_720 : decode code 720 = .ok (.aload_n 0, 1) := by decide +kernel
theorem dL_law_721 : decode code 721 = .ok (.iload_n 3, 1) := by decide +kernel
theorem dL_law_722 : decode code 722 = .ok (.iconst 1, 1) := by decide +kernel
theorem dL_law_723 : decode code 723 = .ok (.iadd, 1) := by decide +kernel
theorem dL_law_724 : decode code 724 = .ok (.iaload, 1) := by decide +kernel
theorem dL_law_725 : decode code 725 = .ok (.aload_n 0, 1) := by decide +kernel
theorem dL_law_726 : decode code 726 = .ok (.iload_n 3, 1) := by decide +kernel
theorem dL_law_727 : decode code 727 = .ok (.iconst 2, 1) := by decide +kernel
theorem dL_law_728 : decode code 728 = .ok (.iadd, 1) := by decide +kernel
theorem dL_law_729 : decode code 729 = .ok (.iaload, 1) := by decide +kernel
theorem dL_law_730 : decode code 730 = .ok (.aload_n 0, 1) := by decide +kernel
theorem dL_law_731 : decode code 731 = .ok (.iload_n 3, 1) := by decide +kernel
theorem dL_law_732 : decode code 732 = .ok (.iconst 3, 1) := by decide +kernel
theorem dL_law_733 : decode code 733 = .ok (.iadd, 1) := by decide +kernel
theorem dL_law_734 : decode code 734 = .ok (.iaload, 1) := by decide +kernel
theorem dL_law_735 : decode code 735 = .ok (.invokevirtual 78, 3) := by decide +kernel
theorem dL_law_738 : decode code 738 = .ok (.if_icmp .eq 161, 3) := by decide +kernel
theorem dL_law_741 : decode code 741 = .ok (.iconst 0, 1) := by decide +kernel
theorem dL_law_742 : decode code 742 = .ok (.ireturn, 1) := by decide +kernel
theorem dL_law_743 : decode code 743 = .ok (.aload_n 1, 1) := by decide +kernel
theorem dL_law_744 : decode code 744 = .ok (.aload_n 0, 1) := by decide +kernel
theorem dL_law_745 : decode code 745 = .ok (.iload_n 3, 1) := by decide +kernel
theorem dL_law_746 : decode code 746 = .ok (.iconst 1, 1) := by decide +kernel
theorem dL_law_747 : decode code 747 = .ok (.iadd, 1) := by decide +kernel
theorem dL_law_748 : decode code 748 = .ok (.iaload, 1) := by decide +kernel
theorem dL_law_749 : decode code 749 = .ok (.aload_n 0, 1) := by decide +kernel
theorem dL_law_750 : decode code 750 = .ok (.iload_n 3, 1) := by decide +kernel
theorem dL_law_751 : decode code 751 = .ok (.iconst 2, 1) := by decide +kernel
theorem dL_law_752 : decode code 752 = .ok (.iadd, 1) := by decide +kernel
theorem dL_law_753 : decode code 753 = .ok (.iaload, 1) := by decide +kernel
theorem dL_law_754 : decode code 754 = .ok (.invokevirtual 79, 3) := by decide +kernel
theorem dL_law_757 : decode code 757 = .ok (.aload_n 2, 1) := by decide +kernel
theorem dL_law_758 : decode code 758 = .ok (.aload_n 0, 1) := by decide +kernel
theorem dL_law_759 : decode code 759 = .ok (.iload_n 3, 1) := by decide +kernel
theorem dL_law_760 : decode code 760 = .ok (.iconst 1, 1) := by decide +kernel
theorem dL_law_761 : decode code 761 = .ok (.iadd, 1) := by decide +kernel
theorem dL_law_762 : decode code 762 = .ok (.iaload, 1) := by decide +kernel
theorem dL_law_763 : decode code 763 = .ok (.aload_n 0, 1) := by decide +kernel
theorem dL_law_764 : decode code 764 = .ok (.iload_n 3, 1) := by decide +kernel
theorem dL_law_765 : decode code 765 = .ok (.iconst 2, 1) := by decide +kernel
theorem dL_law_766 : decode code 766 = .ok (.iadd, 1) := by decide +kernel
theorem dL_law_767 : decode code 767 = .ok (.iaload, 1) := by decide +kernel
theorem dL_law_768 : decode code 768 = .ok (.invokevirtual 82, 3) := by decide +kernel
theorem dL_law_771 : decode code 771 = .ok (.lcmp, 1) := by decide +kernel
theorem dL_law_772 : decode code 772 = .ok (.ifCond .eq 127, 3) := by decide +kernel
theorem dL_law_775 : decode code 775 = .ok (.iconst 0, 1) := by decide +kernel
theorem dL_law_776 : decode code 776 = .ok (.ireturn, 1) := by decide +kernel
theorem dL_law_777 : decode code 777 = .ok (.aload_n 1, 1) := by decide +kernel
theorem dL_law_778 : decode code 778 = .ok (.aload_n 0, 1) := by decide +kernel
theorem dL_law_779 : decode code 779 = .ok (.iload_n 3, 1) := by decide +kernel
theorem dL_law_780 : decode code 780 = .ok (.iconst 1, 1) := by decide +kernel
theorem dL_law_781 : decode code 781 = .ok (.iadd, 1) := by decide +kernel
theorem dL_law_782 : decode code 782 = .ok (.iaload, 1) := by decide +kernel
theorem dL_law_783 : decode code 783 = .ok (.aload_n 0, 1) := by decide +kernel
theorem dL_law_784 : decode code 784 = .ok (.iload_n 3, 1) := by decide +kernel
theorem dL_law_785 : decode code 785 = .ok (.iconst 2, 1) := by decide +kernel
theorem dL_law_786 : decode code 786 = .ok (.iadd, 1) := by decide +kernel
theorem dL_law_787 : decode code 787 = .ok (.iaload, 1) := by decide +kernel
theorem dL_law_788 : decode code 788 = .ok (.invokevirtual 83, 3) := by decide +kernel
theorem dL_law_791 : decode code 791 = .ok (.aload_n 2, 1) := by decide +kernel
theorem dL_law_792 : decode code 792 = .ok (.aload_n 0, 1) := by decide +kernel
theorem dL_law_793 : decode code 793 = .ok (.iload_n 3, 1) := by decide +kernel
theorem dL_law_794 : decode code 794 = .ok (.iconst 1, 1) := by decide +kernel
theorem dL_law_795 : decode code 795 = .ok (.iadd, 1) := by decide +kernel
theorem dL_law_796 : decode code 796 = .ok (.iaload, 1) := by decide +kernel
theorem dL_law_797 : decode code 797 = .ok (.aload_n 0, 1) := by decide +kernel
theorem dL_law_798 : decode code 798 = .ok (.iload_n 3, 1) := by decide +kernel
theorem dL_law_799 : decode code 799 = .ok (.iconst 2, 1) := by decide +kernel
theorem dL_law_800 : decode code 800 = .ok (.iadd, 1) := by decide +kernel
theorem dL_law_801 : decode code 801 = .ok (.iaload, 1) := by decide +kernel
theorem dL_law_802 : decode code 802 = .ok (.invokevirtual 86, 3) := by decide +kernel
theorem dL_law_805 : decode code 805 = .ok (.if_icmp .eq 94, 3) := by decide +kernel
theorem dL_law_808 : decode code 808 = .ok (.iconst 0, 1) := by decide +kernel
theorem dL_law_809 : decode code 809 = .ok (.ireturn, 1) := by decide +kernel
theorem dL_law_810 : decode code 810 = .ok (.aload_n 1, 1) := by decide +kernel
theorem dL_law_811 : decode code 811 = .ok (.aload_n 0, 1) := by decide +kernel
theorem dL_law_812 : decode code 812 = .ok (.iload_n 3, 1) := by decide +kernel
theorem dL_law_813 : decode code 813 = .ok (.iconst 1, 1) := by decide +kernel
theorem dL_law_814 : decode code 814 = .ok (.iadd, 1) := by decide +kernel
theorem dL_law_815 : decode code 815 = .ok (.iaload, 1) := by decide +kernel
theorem dL_law_816 : decode code 816 = .ok (.aload_n 0, 1) := by decide +kernel
theorem dL_law_817 : decode code 817 = .ok (.iload_n 3, 1) := by decide +kernel
theorem dL_law_818 : decode code 818 = .ok (.iconst 2, 1) := by decide +kernel
theorem dL_law_819 : decode code 819 = .ok (.iadd, 1) := by decide +kernel
theorem dL_law_820 : decode code 820 = .ok (.iaload, 1) := by decide +kernel
theorem dL_law_821 : decode code 821 = .ok (.invokevirtual 87, 3) := by decide +kernel
theorem dL_law_824 : decode code 824 = .ok (.aload_n 2, 1) := by decide +kernel
theorem dL_law_825 : decode code 825 = .ok (.aload_n 0, 1) := by decide +kernel
theorem dL_law_826 : decode code 826 = .ok (.iload_n 3, 1) := by decide +kernel
theorem dL_law_827 : decode code 827 = .ok (.iconst 1, 1) := by decide +kernel
theorem dL_law_828 : decode code 828 = .ok (.iadd, 1) := by decide +kernel
theorem dL_law_829 : decode code 829 = .ok (.iaload, 1) := by decide +kernel
theorem dL_law_830 : decode code 830 = .ok (.aload_n 0, 1) := by decide +kernel
theorem dL_law_831 : decode code 831 = .ok (.iload_n 3, 1) := by decide +kernel
theorem dL_law_832 : decode code 832 = .ok (.iconst 2, 1) := by decide +kernel
theorem dL_law_833 : decode code 833 = .ok (.iadd, 1) := by decide +kernel
theorem dL_law_834 : decode code 834 = .ok (.iaload, 1) := by decide +kernel
theorem dL_law_835 : decode code 835 = .ok (.invokevirtual 90, 3) := by decide +kernel
theorem dL_law_838 : decode code 838 = .ok (.if_icmp .eq 61, 3) := by decide +kernel
theorem dL_law_841 : decode code 841 = .ok (.iconst 0, 1) := by decide +kernel
theorem dL_law_842 : decode code 842 = .ok (.ireturn, 1) := by decide +kernel
theorem dL_law_843 : decode code 843 = .ok (.aload_n 1, 1) := by decide +kernel
theorem dL_law_844 : decode code 844 = .ok (.aload_n 0, 1) := by decide +kernel
theorem dL_law_845 : decode code 845 = .ok (.iload_n 3, 1) := by decide +kernel
theorem dL_law_846 : decode code 846 = .ok (.iconst 1, 1) := by decide +kernel
theorem dL_law_847 : decode code 847 = .ok (.iadd, 1) := by decide +kernel
theorem dL_law_848 : decode code 848 = .ok (.iaload, 1) := by decide +kernel
theorem dL_law_849 : decode code 849 = .ok (.aload_n 0, 1) := by decide +kernel
theorem dL_law_850 : decode code 850 = .ok (.iload_n 3, 1) := by decide +kernel
theorem dL_law_851 : decode code 851 = .ok (.iconst 2, 1) := by decide +kernel
theorem dL_law_852 : decode code 852 = .ok (.iadd, 1) := by decide +kernel
theorem dL_law_853 : decode code 853 = .ok (.iaload, 1) := by decide +kernel
theorem dL_law_854 : decode code 854 = .ok (.invokevirtual 91, 3) := by decide +kernel
theorem dL_law_857 : decode code 857 = .ok (.aload_n 2, 1) := by decide +kernel
theorem dL_law_858 : decode code 858 = .ok (.aload_n 0, 1) := by decide +kernel
theorem dL_law_859 : decode code 859 = .ok (.iload_n 3, 1) := by decide +kernel
theorem dL_law_860 : decode code 860 = .ok (.iconst 1, 1) := by decide +kernel
theorem dL_law_861 : decode code 861 = .ok (.iadd, 1) := by decide +kernel
theorem dL_law_862 : decode code 862 = .ok (.iaload, 1) := by decide +kernel
theorem dL_law_863 : decode code 863 = .ok (.aload_n 0, 1) := by decide +kernel
theorem dL_law_864 : decode code 864 = .ok (.iload_n 3, 1) := by decide +kernel
theorem dL_law_865 : decode code 865 = .ok (.iconst 2, 1) := by decide +kernel
theorem dL_law_866 : decode code 866 = .ok (.iadd, 1) := by decide +kernel
theorem dL_law_867 : decode code 867 = .ok (.iaload, 1) := by decide +kernel
theorem dL_law_868 : decode code 868 = .ok (.invokevirtual 94, 3) := by decide +kernel
theorem dL_law_871 : decode code 871 = .ok (.if_icmp .eq 28, 3) := by decide +kernel
theorem dL_law_874 : decode code 874 = .ok (.iconst 0, 1) := by decide +kernel
theorem dL_law_875 : decode code 875 = .ok (.ireturn, 1) := by decide +kernel
theorem dL_law_876 : decode code 876 = .ok (.aload_n 1, 1) := by decide +kernel
theorem dL_law_877 : decode code 877 = .ok (.aload_n 0, 1) := by decide +kernel
theorem dL_law_878 : decode code 878 = .ok (.iload_n 3, 1) := by decide +kernel
theorem dL_law_879 : decode code 879 = .ok (.iconst 1, 1) := by decide +kernel
theorem dL_law_880 : decode code 880 = .ok (.iadd, 1) := by decide +kernel
theorem dL_law_881 : decode code 881 = .ok (.iaload, 1) := by decide +kernel
theorem dL_law_882 : decode code 882 = .ok (.invokevirtual 95, 3) := by decide +kernel
theorem dL_law_885 : decode code 885 = .ok (.aload_n 2, 1) := by decide +kernel
theorem dL_law_886 : decode code 886 = .ok (.aload_n 0, 1) := by decide +kernel
theorem dL_law_887 : decode code 887 = .ok (.iload_n 3, 1) := by decide +kernel
theorem dL_law_888 : decode code 888 = .ok (.iconst 1, 1) := by decide +kernel
theorem dL_law_889 : decode code 889 = .ok (.iadd, 1) := by decide +kernel
theorem dL_law_890 : decode code 890 = .ok (.iaload, 1) := by decide +kernel
theorem dL_law_891 : decode code 891 = .ok (.invokevirtual 98, 3) := by decide +kernel
theorem dL_law_894 : decode code 894 = .ok (.if_icmp .eq 5, 3) := by decide +kernel
theorem dL_law_897 : decode code 897 = .ok (.iconst 0, 1) := by decide +kernel
theorem dL_law_898 : decode code 898 = .ok (.ireturn, 1) := by decide +kernel
theorem dL_law_899 : decode code 899 = .ok (.iinc 3 5, 3) := by decide +kernel
theorem dL_law_902 : decode code 902 = .ok (.goto (-884), 3) := by decide +kernel
theorem dL_law_905 : decode code 905 = .ok (.iconst 1, 1) := by decide +kernel
theorem dL_law_906 : decode code 906 = .ok (.ireturn, 1) := by decide +kernel
end
section
/-! Arrays.fill over any flat world -/
def dn_fill_L (q n : Nat) (v : Int) : Nat → Int → fMem → fOp
  | 0, _, _ => none
  | k + 1, i, M => fLe (n : Int) i (some (0, M)) (fWr M q n i v (fun M' => dn_fill_L q n v k (i + 1) M'))
theorem dn_fill_eq (q n : Nat) (hn : n ≤ 2147483647) (v : Int) : ∀ (k i : Nat) (M : fMem), i ≤ n → n - i < k → (∀ j, j < i → M q j = v) → ∃ M', dn_fill_L q n v k (i : Int) M = some (0, M') ∧ (∀ p j, ¬ (p = q ∧ j < n) → M' p j = M p j) ∧ ∀ j, j < n → M' q j = v := by
  intro k
  induction k with
  | zero => intro i M _ h; omega
  | succ k ih =>
    intro i M hi hk hv
    show ∃ M', fLe (n : Int) i (some (0, M)) (fWr M q n i v (fun M' => dn_fill_L q n v k (i + 1) M')) = some (0, M') ∧ _
    unfold fLe
    rw [if_pos ⟨⟨by omega, by omega⟩, by omega, by omega⟩]
    by_cases h : (n : Int) ≤ i
    · rw [if_pos h]
      have : i = n := by omega
      subst this
      exact ⟨M, rfl, fun _ _ _ => rfl, hv⟩
    · rw [if_neg h]
      unfold fWr
      rw [if_pos ⟨by omega, by omega⟩]
      obtain ⟨M', e1, e2, e3⟩ := ih (i + 1) (fup M q (i : Int).toNat v) (by omega) (by omega) (fun j hj => by
        by_cases hji : j = i
        · subst hji; simp [fup]
        · rw [fup_ne (by simp; omega)]; exact hv j (by omega))
      refine ⟨M', by rw [← e1]; rfl, fun p j hp => ?_, e3⟩
      rw [e2 p j hp, fup_ne]
      intro hz
      exact hp ⟨hz.1, by have := hz.2; simp at this; omega⟩
section FFill
variable {l : Launch} {p : Program} {e : Env} {s : State} {m : MethodId} {args : Array Value} {below : List Frame} {meth : Method} {c : Code} {cl : List vw_C} {D : va_G} {aC : Nat → ClassId} {tb : List fEn} {ad : Nat → Nat}
theorem wk_fill_L {q n : Nat} {xs : List (Nat × Nat)} (he : tb[q]? = some (0, n, xs)) (hn : n ≤ 2147483647) (v : Int) (hC : fCx p s m args c cl D aC tb ad (fFr ad tb) goodTs cJ7_fill RJ7 4) (hr : meth.sig.returnType = none) (hk : meth.locks = false) (k : Nat) : ∀ (i : Int) (M : fMem), GO p l e (fRm 0 0) s m args below meth c cl D aC tb ad (fFr ad tb) 4 0 0 (fun r => MQ below (fQ cl D aC ad tb 2 r) args s 0 0 (fFr ad tb)) 5 [(0, .ref (ad q)), (1, .int (fI v)), (2, .int (fI i)), (3, .int (fI (n : Int)))] [] M (dn_fill_L q n v k i M) := by
  induction k with
  | zero => intro i M; exact g_none
  | succ k ih =>
    intro i M
    show GO p l e (fRm 0 0) s m args below meth c cl D aC tb ad (fFr ad tb) 4 0 0 (fun r => MQ below (fQ cl D aC ad tb 2 r) args s 0 0 (fFr ad tb)) 5 [(0, .ref (ad q)), (1, .int (fI v)), (2, .int (fI i)), (3, .int (fI (n : Int)))] [] M (fLe (n : Int) i (some (0, M)) (fWr M q n i v (fun M' => dn_fill_L q n v k (i + 1) M')))
    refine g_iload_n hC 2 6 rfl dJ7_fill_5 rfl rfl ?_
    refine g_iload_n hC 3 7 rfl dJ7_fill_6 rfl rfl ?_
    refine g_icmp_ge hC 20 10 dJ7_fill_7 rfl rfl ?_ ?_
    · exact g_return hC hr hk dJ7_fill_20
    · refine g_aload_n hC 0 11 rfl dJ7_fill_10 rfl rfl ?_
      refine g_iload_n hC 2 12 rfl dJ7_fill_11 rfl rfl ?_
      refine g_iload_n hC 1 13 rfl dJ7_fill_12 rfl rfl ?_
      refine g_iast hC 14 he (by omega) dJ7_fill_13 rfl (fun M' => ?_)
      refine g_iinc hC 2 17 [(2, .int (fI (i + 1))), (0, .ref (ad q)), (1, .int (fI v)), (3, .int (fI (n : Int)))] rfl dJ7_fill_14 (by decide) rfl rfl ?_
      refine g_goto hC 5 dJ7_fill_17 rfl ?_
      refine g_lv [1, 2, 0, 3] rfl ?_
      exact ih _ _
end FFill
theorem fill_mem {M M' : fMem} {q n : Nat} {v : Int} (h1 : ∀ p j, ¬ (p = q ∧ j < n) → M' p j = M p j) (h2 : ∀ j, j < n → M' q j = v) : M' = fun p j => if p = q ∧ j < n then v else M p j := by
  funext p j
  split
  · rename_i h
    rw [h.1]
    exact h2 j h.2
  · rename_i h
    exact h1 p j h
theorem cn_fillG (l : Launch) (cl : List vw_C) (tb : List fEn) (q n : Nat) (xs : List (Nat × Nat)) (he : tb[q]? = some (0, n, xs)) (hn : n ≤ 2147483647) (v : Int) (M : fMem) : fMt l cl tb yJ7_fill cJ7_fill 4 (none) 0 0 2 (fun ad => [.ref (ad q), .int (fI v)]) M (fFil M q n v) := by
  refine fMt.of (by decide +kernel) (fun _ => Nat.le_of_ble_eq_true rfl) (fun p e s m args below meth c D aC ad hC hr hk => ?_)
  have hW : fFil M q n v = dn_fill_L q n v (n + 1) 0 M := by
    obtain ⟨M', e1, e2, e3⟩ := dn_fill_eq q n hn v (n + 1) 0 M (by omega) (by omega) (fun j h => by omega)
    have e1 : dn_fill_L q n v (n + 1) 0 M = some (0, M') := e1
    rw [e1, fill_mem e2 e3]
    rfl
  rw [hW]
  refine g_iconst hC 1 dJ7_fill_0 rfl ?_
  refine g_istore_n hC 2 [(2, .int (fI 0)), (0, .ref (ad q)), (1, .int (fI v))] dJ7_fill_1 rfl (by decide) rfl rfl ?_
  refine g_aload_n hC 1 3 rfl dJ7_fill_2 rfl rfl ?_
  refine g_alen hC 4 he dJ7_fill_3 rfl ?_
  refine g_istore_n hC 5 [(3, .int (fI (n : Int))), (2, .int (fI 0)), (0, .ref (ad q)), (1, .int (fI v))] dJ7_fill_4 rfl (by decide) rfl rfl ?_
  refine g_lv [2, 3, 1, 0] rfl ?_
  exact wk_fill_L he hn v hC hr hk (n + 1) 0 M
theorem cn_fill (l : Launch) (q n : Nat) (he : TB[q]? = some (0, n, [])) (hn : n ≤ 2147483647) (v : Int) (M : fMem) : fMt l vwCl TB yJ7_fill cJ7_fill 4 (none) 0 0 2 (fun ad => [.ref (ad q), .int (fI v)]) M (fFil M q n v) := cn_fillG l vwCl TB q n [] he hn v M
end
section
def R_law : String := "RevisionStoreLaw"
def lw_P (b : Addr) (xs : List Int32) (args : Array Value) (s : State) : Prop := args = #[.ref b] ∧ s.IntsAt b xs ∧ xs.length ≤ 2560 ∧ (Jvm.Cond.and given_1 narrow_1).before args s = true
def lw_Q (_ : Array Value) (s : State) (o : Outcome) (t : State) : Prop := o = .returned (some (.int 1)) ∧ Framed s o t [] 600000 7302250
def lw_Z (below : List Frame) (a : Array Value) (s : State) : State → Prop := fun t => ∃ o, t.status = .running ∧ Ended t below o ∧ lw_Q a s o t
/-- the law's own end, with 1 on the stack, nothing written that was there before, its room as the claim has it -/
theorem lw_ret {p : Program} {l : Launch} {e : Env} {s : State} {m : MethodId} {below : List Frame} {meth : Method} {c : Code} {b : Nat} (hx : p.tables.exec = Jvm.exec) (hb : c.code = code) (hr : meth.sig.returnType = ret) (hlocks : meth.locks = false) {pc : Nat} {H : Heap} {ls : Array Slot} (hdg : decode code pc = .ok (.ireturn, 1)) : W p l e room_1 s m #[Value.ref b] below meth c H [] 600000 7302250 (lw_Z below #[Value.ref b] s) (F0 m pc ls [.int 1]) := by
  intro T hT X
  obtain ⟨fs, hret, hrun, hended, hW, hframe⟩ := X.leave (v := some (.int 1)) (hlocks := hlocks) (fun h => by rw [hr] at h; cases h)
  have hmeth' : T.vm.method? m = some meth := X.method'
  refine ⟨T.setFrames fs, ?_, .returned (some (.int 1)), hrun, hended, rfl, ⟨_, rfl⟩, hW, hframe⟩
  jvm_step X.here [X.here.top, hx, hb, hdg, hmeth', hr, ret, narrow_b1]
  (try refine ⟨rfl, ?_⟩); (try refine ⟨rfl, ?_⟩)
  first | (intro acts; rw [hret _ acts rfl rfl rfl]) | rw [hret _ _ rfl rfl rfl]
  exact Steps.refl _
/-- what holds at the law's entry: the machine, the code, the tables' words (any of lw_tbl by 'hts w (by decide +kernel)'), the script of L ints xs at the cell b, what the Statement gives of the start (any of its parts by flat_of_before) -/
def lw_At (p : Program) (s : State) (m : MethodId) (meth : Method) (c : Code) (b L : Nat) (xs : Nat → Int32) : Prop :=
  p.tables.exec = Jvm.exec ∧ c.code = code ∧ meth.sig.returnType = ret ∧ c.maxLocals = 4 ∧ s.vm.findClass R_law = some m.cls ∧ (∀ w ∈ lw_tbl, w.before #[Value.ref b] s = true) ∧ va_X b L xs s s.heap ∧ b < s.heap.size ∧ meth.locks = false ∧ (Jvm.Cond.and given_1 narrow_1).before #[Value.ref b] s = true
/-! the law: its script, its switch, its end -/
def fSc {α : Type} (sc : Nat → Int) (L : Nat) (i : Int) (k : Int → Option α) : Option α := if 0 ≤ i ∧ i < (L : Int) then k (sc i.toNat) else none
def fA5 {α : Type} (x : Int) (k : Int → Option α) : Option α := k (x % 32)
def fShl (a : Int) : Int := (fL a <<< ((fI 32).toInt64 &&& 63)).toInt
def fM32 (a : Int) : Int := (fL a &&& fL 4294967295).toInt
def fOr (a b : Int) : Int := (fL a ||| fL b).toInt
theorem fI_and31 (a : Int) : fI a &&& fI 31 = fI (a % 32) := by
  rw [pk_and (fI a) (m := fI 31) 5 (by decide)]
  have e1 : (fI a).toBitVec.toNat = (a % 4294967296).toNat := by
    show (BitVec.ofInt 32 a).toNat = _
    rw [BitVec.toNat_ofInt]
    rfl
  rw [e1]
  show Int32.ofNat _ = fI (a % 32)
  rw [fI_ofNat]
  congr 1
  have h1 : (0 : Int) ≤ a % 4294967296 := Int.emod_nonneg _ (by decide)
  rw [Int.natCast_emod, Int.toNat_of_nonneg h1]
  omega
section FLaw
variable {p : Program} {l : Launch} {e : Env} {R : Room} {s : State} {m : MethodId} {args : Array Value} {below : List Frame} {meth : Method} {c : Code} {cl : List vw_C} {D : va_G} {aC : Nat → ClassId} {tb : List fEn} {ad : Nat → Nat} {A : Nat → Prop} {nL cells slots : Nat} {Qf : Int × fMem → State → Prop}
variable {Ts : List Cond} {cc : ByteArray} {own : String} {pc : Nat} {lv : List (Nat × Value)} {st : List Value} {M : fMem} {d : fOp}
theorem g_sld (hC : fCx p s m args c cl D aC tb ad A Ts cc own nL) {b L : Nat} {xs : Nat → Int32} (hX : va_X b L xs s s.heap ∧ b < s.heap.size ∧ ¬ A b ∧ L ≤ 2147483647) {i : Int} {kd : Int → fOp} (pc' : Nat) (hd : decode cc pc = .ok (.iaload, 1)) (hp : pc + 1 = pc')
    (k : ∀ x : Int, GO p l e R s m args below meth c cl D aC tb ad A nL cells slots Qf pc' lv (.int (fI x) :: st) M (kd x)) : GO p l e R s m args below meth c cl D aC tb ad A nL cells slots Qf pc lv (.int (fI i) :: .ref b :: st) M (fSc (fun j => (xs j).toInt) L i kd) := by
  subst hp
  intro r hr H locs ls hl hP hS
  unfold fSc at hr
  split at hr
  · rename_i h
    refine va_sld hC.1 hC.2.1 hX.1 hX.2.1 hX.2.2.1 hS (fI_in h (by omega)) hd ?_
    rw [fI_clamp h (by omega)]
    have h1 := k (xs i.toNat).toInt r hr H locs ls hl hP hS
    rw [fI_back] at h1
    exact h1
  · cases hr
theorem g_slen (hC : fCx p s m args c cl D aC tb ad A Ts cc own nL) {b L : Nat} {xs : Nat → Int32} (hX : va_X b L xs s s.heap ∧ b < s.heap.size ∧ ¬ A b ∧ L ≤ 2147483647) (pc' : Nat) (hd : decode cc pc = .ok (.arraylength, 1)) (hp : pc + 1 = pc')
    (k : GO p l e R s m args below meth c cl D aC tb ad A nL cells slots Qf pc' lv (.int (fI (L : Int)) :: st) M d) : GO p l e R s m args below meth c cl D aC tb ad A nL cells slots Qf pc lv (.ref b :: st) M d := by
  subst hp
  intro r hr H locs ls hl hP hS
  refine va_slen hC.1 hC.2.1 hX.1 hX.2.1 hX.2.2.1 hS hd ?_
  rw [fI_ofNat]
  exact k r hr H locs ls hl hP hS
theorem g_iand31 (hC : fCx p s m args c cl D aC tb ad A Ts cc own nL) {a : Int} {kd : Int → fOp} (pc' : Nat) (hd : decode cc pc = .ok (.iand, 1)) (hp : pc + 1 = pc')
    (k : ∀ x : Int, GO p l e R s m args below meth c cl D aC tb ad A nL cells slots Qf pc' lv (.int (fI x) :: st) M (kd x)) : GO p l e R s m args below meth c cl D aC tb ad A nL cells slots Qf pc lv (.int (fI 31) :: .int (fI a) :: st) M (fA5 a kd) := by
  subst hp
  exact fun r hr H locs ls hl hP hS => lv_iand hC.1 hC.2.1 hd (by rw [fI_and31]; exact k _ r hr H locs ls hl hP hS)
theorem g_lshl32 (hC : fCx p s m args c cl D aC tb ad A Ts cc own nL) {a : Int} (pc' : Nat) (hd : decode cc pc = .ok (.lshl, 1)) (hp : pc + 1 = pc')
    (k : GO p l e R s m args below meth c cl D aC tb ad A nL cells slots Qf pc' lv (.long (fL (fShl a)) :: st) M d) : GO p l e R s m args below meth c cl D aC tb ad A nL cells slots Qf pc lv (.int (fI 32) :: .long (fL a) :: st) M d := by
  subst hp
  exact fun r hr H locs ls hl hP hS => lv_lshl hC.1 hC.2.1 hd (fL_back _).symm (k r hr H locs ls hl hP hS)
theorem g_land32 (hC : fCx p s m args c cl D aC tb ad A Ts cc own nL) {a : Int} (pc' : Nat) (hd : decode cc pc = .ok (.land, 1)) (hp : pc + 1 = pc')
    (k : GO p l e R s m args below meth c cl D aC tb ad A nL cells slots Qf pc' lv (.long (fL (fM32 a)) :: st) M d) : GO p l e R s m args below meth c cl D aC tb ad A nL cells slots Qf pc lv (.long (fL 4294967295) :: .long (fL a) :: st) M d := by
  subst hp
  intro r hr H locs ls hl hP hS
  have h := k r hr H locs ls hl hP hS
  unfold fM32 at h
  rw [fL_back] at h
  exact lv_land hC.1 hC.2.1 hd h
theorem g_lor (hC : fCx p s m args c cl D aC tb ad A Ts cc own nL) {a b : Int} (pc' : Nat) (hd : decode cc pc = .ok (.lor, 1)) (hp : pc + 1 = pc')
    (k : GO p l e R s m args below meth c cl D aC tb ad A nL cells slots Qf pc' lv (.long (fL (fOr a b)) :: st) M d) : GO p l e R s m args below meth c cl D aC tb ad A nL cells slots Qf pc lv (.long (fL b) :: .long (fL a) :: st) M d := by
  subst hp
  intro r hr H locs ls hl hP hS
  have h := k r hr H locs ls hl hP hS
  unfold fOr at h
  rw [fL_back] at h
  exact lv_lor hC.1 hC.2.1 hd h
theorem g_tsw (hC : fCx p s m args c cl D aC tb ad A Ts cc own nL) {dflt lo hi off y : Int} {offs : Array Int} {len : Nat} {dT dF : fOp} (v : Int) (tgt : Nat) (hd : decode cc pc = .ok (.tableswitch dflt lo hi offs, len)) (hv : lo ≤ v ∧ v ≤ hi) (ho : offs[(v - lo).toNat]? = some off) (ht : (pc : Int) + off = (tgt : Int))
    (kt : GO p l e R s m args below meth c cl D aC tb ad A nL cells slots Qf tgt lv st M dT) (kf : ¬ y = v → GO p l e R s m args below meth c cl D aC tb ad A nL cells slots Qf pc lv (.int (fI y) :: st) M dF) : GO p l e R s m args below meth c cl D aC tb ad A nL cells slots Qf pc lv (.int (fI y) :: st) M (fEq y v dT dF) := by
  intro r hr H locs ls hl hP hS
  unfold fEq at hr
  split at hr
  · rename_i hy
    by_cases h : y = v
    · rw [if_pos h] at hr
      exact lv_tableIn hC.1 hC.2.1 hd (by rw [fI_toInt hy.1]; omega) (by rw [fI_toInt hy.1]; omega) (by rw [fI_toInt hy.1, h]; exact ho) ht (kt r hr H locs ls hl hP hS)
    · rw [if_neg h] at hr
      exact kf h r hr H locs ls hl hP hS
  · cases hr
theorem g_tswO (hC : fCx p s m args c cl D aC tb ad A Ts cc own nL) {dflt lo hi y : Int} {offs : Array Int} {len : Nat} (tgt : Nat) (hd : decode cc pc = .ok (.tableswitch dflt lo hi offs, len)) (hv : y < lo ∨ hi < y) (ht : (pc : Int) + dflt = (tgt : Int))
    (k : GO p l e R s m args below meth c cl D aC tb ad A nL cells slots Qf tgt lv st M d) : GO p l e R s m args below meth c cl D aC tb ad A nL cells slots Qf pc lv (.int (fI y) :: st) M (fX2 y d) := by
  intro r hr H locs ls hl hP hS
  unfold fX2 at hr
  split at hr
  · rename_i hy
    exact lv_tableOut hC.1 hC.2.1 hd (by rw [fI_toInt hy]; exact hv) ht (k r hr H locs ls hl hP hS)
  · cases hr
end FLaw
abbrev GL (l : Launch) (p : Program) (e : Env) (s : State) (m : MethodId) (b : Nat) (below : List Frame) (meth : Method) (c : Code) (D : va_G) (aC : Nat → ClassId) (ad : Nat → Nat) (CC SS : Nat) (pc : Nat) (lv : List (Nat × Value)) (st : List Value) (M : fMem) (d : fOp) : Prop := GO p l e room_1 s m #[Value.ref b] below meth c vwCl D aC TB ad (fun q => s.heap.size ≤ q) 4 CC SS (fun _ => lw_Z below #[Value.ref b] s) pc lv st M d
theorem g_lawret {l : Launch} {p : Program} {e : Env} {s : State} {m : MethodId} {b : Nat} {below : List Frame} {meth : Method} {c : Code} {D : va_G} {aC : Nat → ClassId} {ad : Nat → Nat} {CC SS : Nat} {cl : List vw_C} {Ts : List Cond} {nL : Nat} {own : String} {tb : List fEn} {A : Nat → Prop} (hC : fCx p s m #[Value.ref b] c cl D aC tb ad A Ts code own nL) (hr : meth.sig.returnType = ret) (hk : meth.locks = false) (hcs : CC ≤ 600000 ∧ SS ≤ 7302250) {pc : Nat} {lv : List (Nat × Value)} {M : fMem} (hd : decode code pc = .ok (.ireturn, 1)) : GL l p e s m b below meth c D aC ad CC SS pc lv [.int (fI 1)] M (some (1, M)) := by
  intro r hr0 H locs ls hl hP hS
  refine va_forget (fun q hq => hS.2.2 q hq) ?_
  refine W.widen (k := 600000) (n := 7302250) hcs.1 hcs.2 ?_
  exact lw_ret hC.1 hC.2.1 hr hk hd
end
