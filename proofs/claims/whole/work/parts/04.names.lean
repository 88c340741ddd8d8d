/-! names, printed by a program of mine out of the Statement -/
def RX0 : String := "RevisionStore$Copy"
def RX1 : String := "RevisionStore$Difference"
def RX2 : String := "RevisionStore$History"
def RX3 : String := "RevisionStore$Merger"
def RX4 : String := "RevisionStore$Text"
def RX5 : String := "RevisionStore"
def RX6 : String := "RevisionStoreModel"
def RJ7 : String := "java/util/Arrays"
def RL : String := "RevisionStoreLaw"
def TX0 : u_T := fun k => match k with
  | 0 => (RX0, "base", "I", false)
  | 1 => (RX0, "gone", "Z", false)
  | 2 => (RX0, "text", "J", false)
  | _ => (RX0, "stickyTag", "I", false)
def tyX0 : Nat → FieldType := fun k => match k with
  | 0 => .int
  | 1 => .boolean
  | 2 => .long
  | _ => .int
theorem nmX0 : ∀ a, a < 4 → ∀ b, b < 4 → a ≠ b → (TX0 a).2.1 ≠ (TX0 b).2.1 := by decide +kernel
theorem tyX0_ok : ∀ k, k < 4 → parseFieldDescriptor (TX0 k).2.2.1 = some (tyX0 k) := by decide +kernel
theorem layX0_0 : u_lay RX0 TX0 0 ∈ lw_tbl := List.mem_of_getElem? (i := 153) (by decide +kernel)
theorem layX0_1 : u_lay RX0 TX0 1 ∈ lw_tbl := List.mem_of_getElem? (i := 155) (by decide +kernel)
theorem layX0_2 : u_lay RX0 TX0 2 ∈ lw_tbl := List.mem_of_getElem? (i := 157) (by decide +kernel)
theorem layX0_3 : u_lay RX0 TX0 3 ∈ lw_tbl := List.mem_of_getElem? (i := 159) (by decide +kernel)
theorem inX0 : ∀ w ∈ u_ws RX0 TX0 4, w ∈ goodTs := by
  intro w h
  obtain ⟨k, hk, rfl⟩ := List.mem_map.mp h
  have hk := List.mem_range.mp hk
  rcases (show k = 0 ∨ k = 1 ∨ k = 2 ∨ k = 3 by omega) with rfl | rfl | rfl | rfl
  · exact goodTs_mem layX0_0 (by decide +kernel)
  · exact goodTs_mem layX0_1 (by decide +kernel)
  · exact goodTs_mem layX0_2 (by decide +kernel)
  · exact goodTs_mem layX0_3 (by decide +kernel)
def TX1 : u_T := fun k => match k with
  | 0 => (RX1, "first", "[I", true)
  | 1 => (RX1, "second", "[I", true)
  | 2 => (RX1, "firstCount", "I", false)
  | 3 => (RX1, "secondCount", "I", false)
  | 4 => (RX1, "common", "[[I", true)
  | 5 => (RX1, "partners", "[I", true)
  | _ => (RX1, "pairCount", "I", false)
def tyX1 : Nat → FieldType := fun k => match k with
  | 0 => .array .int
  | 1 => .array .int
  | 2 => .int
  | 3 => .int
  | 4 => .array (.array .int)
  | 5 => .array .int
  | _ => .int
theorem nmX1 : ∀ a, a < 7 → ∀ b, b < 7 → a ≠ b → (TX1 a).2.1 ≠ (TX1 b).2.1 := by decide +kernel
theorem tyX1_ok : ∀ k, k < 7 → parseFieldDescriptor (TX1 k).2.2.1 = some (tyX1 k) := by decide +kernel
theorem layX1_0 : u_lay RX1 TX1 0 ∈ lw_tbl := List.mem_of_getElem? (i := 182) (by decide +kernel)
theorem layX1_1 : u_lay RX1 TX1 1 ∈ lw_tbl := List.mem_of_getElem? (i := 184) (by decide +kernel)
theorem layX1_2 : u_lay RX1 TX1 2 ∈ lw_tbl := List.mem_of_getElem? (i := 186) (by decide +kernel)
theorem layX1_3 : u_lay RX1 TX1 3 ∈ lw_tbl := List.mem_of_getElem? (i := 188) (by decide +kernel)
theorem layX1_4 : u_lay RX1 TX1 4 ∈ lw_tbl := List.mem_of_getElem? (i := 190) (by decide +kernel)
theorem layX1_5 : u_lay RX1 TX1 5 ∈ lw_tbl := List.mem_of_getElem? (i := 192) (by decide +kernel)
theorem layX1_6 : u_lay RX1 TX1 6 ∈ lw_tbl := List.mem_of_getElem? (i := 194) (by decide +kernel)
theorem inX1 : ∀ w ∈ u_ws RX1 TX1 7, w ∈ goodTs := by
  intro w h
  obtain ⟨k, hk, rfl⟩ := List.mem_map.mp h
  have hk := List.mem_range.mp hk
  rcases (show k = 0 ∨ k = 1 ∨ k = 2 ∨ k = 3 ∨ k = 4 ∨ k = 5 ∨ k = 6 by omega) with rfl | rfl | rfl | rfl | rfl | rfl | rfl
  · exact goodTs_mem layX1_0 (by decide +kernel)
  · exact goodTs_mem layX1_1 (by decide +kernel)
  · exact goodTs_mem layX1_2 (by decide +kernel)
  · exact goodTs_mem layX1_3 (by decide +kernel)
  · exact goodTs_mem layX1_4 (by decide +kernel)
  · exact goodTs_mem layX1_5 (by decide +kernel)
  · exact goodTs_mem layX1_6 (by decide +kernel)
def TX2 : u_T := fun k => match k with
  | 0 => (RX2, "texts", "[J", true)
  | 1 => (RX2, "deaths", "[Z", true)
  | 2 => (RX2, "homes", "[I", true)
  | 3 => (RX2, "ranks", "[I", true)
  | 4 => (RX2, "befores", "[I", true)
  | 5 => (RX2, "count", "I", false)
  | 6 => (RX2, "points", "[I", true)
  | 7 => (RX2, "magics", "[I", true)
  | 8 => (RX2, "lengths", "[I", true)
  | 9 => (RX2, "tips", "[I", true)
  | 10 => (RX2, "branchCount", "I", false)
  | 11 => (RX2, "vendor", "I", false)
  | 12 => (RX2, "defaultBranch", "I", false)
  | _ => (RX2, "names", "[I", true)
def tyX2 : Nat → FieldType := fun k => match k with
  | 0 => .array .long
  | 1 => .array .boolean
  | 2 => .array .int
  | 3 => .array .int
  | 4 => .array .int
  | 5 => .int
  | 6 => .array .int
  | 7 => .array .int
  | 8 => .array .int
  | 9 => .array .int
  | 10 => .int
  | 11 => .int
  | 12 => .int
  | _ => .array .int
theorem nmX2 : ∀ a, a < 14 → ∀ b, b < 14 → a ≠ b → (TX2 a).2.1 ≠ (TX2 b).2.1 := by decide +kernel
theorem tyX2_ok : ∀ k, k < 14 → parseFieldDescriptor (TX2 k).2.2.1 = some (tyX2 k) := by decide +kernel
theorem layX2_0 : u_lay RX2 TX2 0 ∈ lw_tbl := List.mem_of_getElem? (i := 106) (by decide +kernel)
theorem layX2_1 : u_lay RX2 TX2 1 ∈ lw_tbl := List.mem_of_getElem? (i := 108) (by decide +kernel)
theorem layX2_2 : u_lay RX2 TX2 2 ∈ lw_tbl := List.mem_of_getElem? (i := 110) (by decide +kernel)
theorem layX2_3 : u_lay RX2 TX2 3 ∈ lw_tbl := List.mem_of_getElem? (i := 112) (by decide +kernel)
theorem layX2_4 : u_lay RX2 TX2 4 ∈ lw_tbl := List.mem_of_getElem? (i := 114) (by decide +kernel)
theorem layX2_5 : u_lay RX2 TX2 5 ∈ lw_tbl := List.mem_of_getElem? (i := 116) (by decide +kernel)
theorem layX2_6 : u_lay RX2 TX2 6 ∈ lw_tbl := List.mem_of_getElem? (i := 118) (by decide +kernel)
theorem layX2_7 : u_lay RX2 TX2 7 ∈ lw_tbl := List.mem_of_getElem? (i := 120) (by decide +kernel)
theorem layX2_8 : u_lay RX2 TX2 8 ∈ lw_tbl := List.mem_of_getElem? (i := 122) (by decide +kernel)
theorem layX2_9 : u_lay RX2 TX2 9 ∈ lw_tbl := List.mem_of_getElem? (i := 124) (by decide +kernel)
theorem layX2_10 : u_lay RX2 TX2 10 ∈ lw_tbl := List.mem_of_getElem? (i := 126) (by decide +kernel)
theorem layX2_11 : u_lay RX2 TX2 11 ∈ lw_tbl := List.mem_of_getElem? (i := 128) (by decide +kernel)
theorem layX2_12 : u_lay RX2 TX2 12 ∈ lw_tbl := List.mem_of_getElem? (i := 130) (by decide +kernel)
theorem layX2_13 : u_lay RX2 TX2 13 ∈ lw_tbl := List.mem_of_getElem? (i := 132) (by decide +kernel)
theorem inX2 : ∀ w ∈ u_ws RX2 TX2 14, w ∈ goodTs := by
  intro w h
  obtain ⟨k, hk, rfl⟩ := List.mem_map.mp h
  have hk := List.mem_range.mp hk
  rcases (show k = 0 ∨ k = 1 ∨ k = 2 ∨ k = 3 ∨ k = 4 ∨ k = 5 ∨ k = 6 ∨ k = 7 ∨ k = 8 ∨ k = 9 ∨ k = 10 ∨ k = 11 ∨ k = 12 ∨ k = 13 by omega) with rfl | rfl | rfl | rfl | rfl | rfl | rfl | rfl | rfl | rfl | rfl | rfl | rfl | rfl
  · exact goodTs_mem layX2_0 (by decide +kernel)
  · exact goodTs_mem layX2_1 (by decide +kernel)
  · exact goodTs_mem layX2_2 (by decide +kernel)
  · exact goodTs_mem layX2_3 (by decide +kernel)
  · exact goodTs_mem layX2_4 (by decide +kernel)
  · exact goodTs_mem layX2_5 (by decide +kernel)
  · exact goodTs_mem layX2_6 (by decide +kernel)
  · exact goodTs_mem layX2_7 (by decide +kernel)
  · exact goodTs_mem layX2_8 (by decide +kernel)
  · exact goodTs_mem layX2_9 (by decide +kernel)
  · exact goodTs_mem layX2_10 (by decide +kernel)
  · exact goodTs_mem layX2_11 (by decide +kernel)
  · exact goodTs_mem layX2_12 (by decide +kernel)
  · exact goodTs_mem layX2_13 (by decide +kernel)
def TX3 : u_T := fun k => match k with
  | 0 => (RX3, "mine", "LRevisionStore$Difference;", true)
  | 1 => (RX3, "theirs", "LRevisionStore$Difference;", true)
  | 2 => (RX3, "text", "J", false)
  | 3 => (RX3, "lineCount", "I", false)
  | _ => (RX3, "overlap", "Z", false)
def tyX3 : Nat → FieldType := fun k => match k with
  | 0 => .object "RevisionStore$Difference"
  | 1 => .object "RevisionStore$Difference"
  | 2 => .long
  | 3 => .int
  | _ => .boolean
theorem nmX3 : ∀ a, a < 5 → ∀ b, b < 5 → a ≠ b → (TX3 a).2.1 ≠ (TX3 b).2.1 := by decide +kernel
theorem tyX3_ok : ∀ k, k < 5 → parseFieldDescriptor (TX3 k).2.2.1 = some (tyX3 k) := by decide +kernel
theorem layX3_0 : u_lay RX3 TX3 0 ∈ lw_tbl := List.mem_of_getElem? (i := 212) (by decide +kernel)
theorem layX3_1 : u_lay RX3 TX3 1 ∈ lw_tbl := List.mem_of_getElem? (i := 214) (by decide +kernel)
theorem layX3_2 : u_lay RX3 TX3 2 ∈ lw_tbl := List.mem_of_getElem? (i := 216) (by decide +kernel)
theorem layX3_3 : u_lay RX3 TX3 3 ∈ lw_tbl := List.mem_of_getElem? (i := 218) (by decide +kernel)
theorem layX3_4 : u_lay RX3 TX3 4 ∈ lw_tbl := List.mem_of_getElem? (i := 220) (by decide +kernel)
theorem inX3 : ∀ w ∈ u_ws RX3 TX3 5, w ∈ goodTs := by
  intro w h
  obtain ⟨k, hk, rfl⟩ := List.mem_map.mp h
  have hk := List.mem_range.mp hk
  rcases (show k = 0 ∨ k = 1 ∨ k = 2 ∨ k = 3 ∨ k = 4 by omega) with rfl | rfl | rfl | rfl | rfl
  · exact goodTs_mem layX3_0 (by decide +kernel)
  · exact goodTs_mem layX3_1 (by decide +kernel)
  · exact goodTs_mem layX3_2 (by decide +kernel)
  · exact goodTs_mem layX3_3 (by decide +kernel)
  · exact goodTs_mem layX3_4 (by decide +kernel)
def TX5 : u_T := fun k => match k with
  | 0 => (RX5, "histories", "[LRevisionStore$History;", true)
  | 1 => (RX5, "copies", "[LRevisionStore$Copy;", true)
  | 2 => (RX5, "tagSorts", "[I", true)
  | 3 => (RX5, "difference", "LRevisionStore$Difference;", true)
  | _ => (RX5, "merger", "LRevisionStore$Merger;", true)
def tyX5 : Nat → FieldType := fun k => match k with
  | 0 => .array (.object "RevisionStore$History")
  | 1 => .array (.object "RevisionStore$Copy")
  | 2 => .array .int
  | 3 => .object "RevisionStore$Difference"
  | _ => .object "RevisionStore$Merger"
theorem nmX5 : ∀ a, a < 5 → ∀ b, b < 5 → a ≠ b → (TX5 a).2.1 ≠ (TX5 b).2.1 := by decide +kernel
theorem tyX5_ok : ∀ k, k < 5 → parseFieldDescriptor (TX5 k).2.2.1 = some (tyX5 k) := by decide +kernel
theorem layX5_0 : u_lay RX5 TX5 0 ∈ lw_tbl := List.mem_of_getElem? (i := 228) (by decide +kernel)
theorem layX5_1 : u_lay RX5 TX5 1 ∈ lw_tbl := List.mem_of_getElem? (i := 230) (by decide +kernel)
theorem layX5_2 : u_lay RX5 TX5 2 ∈ lw_tbl := List.mem_of_getElem? (i := 232) (by decide +kernel)
theorem layX5_3 : u_lay RX5 TX5 3 ∈ lw_tbl := List.mem_of_getElem? (i := 234) (by decide +kernel)
theorem layX5_4 : u_lay RX5 TX5 4 ∈ lw_tbl := List.mem_of_getElem? (i := 236) (by decide +kernel)
theorem inX5 : ∀ w ∈ u_ws RX5 TX5 5, w ∈ goodTs := by
  intro w h
  obtain ⟨k, hk, rfl⟩ := List.mem_map.mp h
  have hk := List.mem_range.mp hk
  rcases (show k = 0 ∨ k = 1 ∨ k = 2 ∨ k = 3 ∨ k = 4 by omega) with rfl | rfl | rfl | rfl | rfl
  · exact goodTs_mem layX5_0 (by decide +kernel)
  · exact goodTs_mem layX5_1 (by decide +kernel)
  · exact goodTs_mem layX5_2 (by decide +kernel)
  · exact goodTs_mem layX5_3 (by decide +kernel)
  · exact goodTs_mem layX5_4 (by decide +kernel)
def TX6 : u_T := fun k => match k with
  | 0 => (RX6, "count", "[I", true)
  | 1 => (RX6, "text", "[J", true)
  | 2 => (RX6, "gone", "[Z", true)
  | 3 => (RX6, "branchOf", "[I", true)
  | 4 => (RX6, "place", "[I", true)
  | 5 => (RX6, "branches", "[I", true)
  | 6 => (RX6, "point", "[I", true)
  | 7 => (RX6, "magic", "[I", true)
  | 8 => (RX6, "vendor", "[I", true)
  | 9 => (RX6, "standard", "[I", true)
  | 10 => (RX6, "sort", "[I", true)
  | 11 => (RX6, "names", "[I", true)
  | 12 => (RX6, "entry", "[I", true)
  | 13 => (RX6, "out", "[Z", true)
  | 14 => (RX6, "mine", "[J", true)
  | 15 => (RX6, "stuck", "[I", true)
  | 16 => (RX6, "common", "[I", true)
  | 17 => (RX6, "withA", "[I", true)
  | 18 => (RX6, "withB", "[I", true)
  | 19 => (RX6, "merged", "[I", true)
  | 20 => (RX6, "lines", "I", false)
  | _ => (RX6, "overlaps", "Z", false)
def tyX6 : Nat → FieldType := fun k => match k with
  | 0 => .array .int
  | 1 => .array .long
  | 2 => .array .boolean
  | 3 => .array .int
  | 4 => .array .int
  | 5 => .array .int
  | 6 => .array .int
  | 7 => .array .int
  | 8 => .array .int
  | 9 => .array .int
  | 10 => .array .int
  | 11 => .array .int
  | 12 => .array .int
  | 13 => .array .boolean
  | 14 => .array .long
  | 15 => .array .int
  | 16 => .array .int
  | 17 => .array .int
  | 18 => .array .int
  | 19 => .array .int
  | 20 => .int
  | _ => .boolean
theorem nmX6 : ∀ a, a < 22 → ∀ b, b < 22 → a ≠ b → (TX6 a).2.1 ≠ (TX6 b).2.1 := by decide +kernel
theorem tyX6_ok : ∀ k, k < 22 → parseFieldDescriptor (TX6 k).2.2.1 = some (tyX6 k) := by decide +kernel
theorem layX6_0 : u_lay RX6 TX6 0 ∈ lw_tbl := List.mem_of_getElem? (i := 549) (by decide +kernel)
theorem layX6_1 : u_lay RX6 TX6 1 ∈ lw_tbl := List.mem_of_getElem? (i := 551) (by decide +kernel)
theorem layX6_2 : u_lay RX6 TX6 2 ∈ lw_tbl := List.mem_of_getElem? (i := 553) (by decide +kernel)
theorem layX6_3 : u_lay RX6 TX6 3 ∈ lw_tbl := List.mem_of_getElem? (i := 555) (by decide +kernel)
theorem layX6_4 : u_lay RX6 TX6 4 ∈ lw_tbl := List.mem_of_getElem? (i := 557) (by decide +kernel)
theorem layX6_5 : u_lay RX6 TX6 5 ∈ lw_tbl := List.mem_of_getElem? (i := 559) (by decide +kernel)
theorem layX6_6 : u_lay RX6 TX6 6 ∈ lw_tbl := List.mem_of_getElem? (i := 561) (by decide +kernel)
theorem layX6_7 : u_lay RX6 TX6 7 ∈ lw_tbl := List.mem_of_getElem? (i := 563) (by decide +kernel)
theorem layX6_8 : u_lay RX6 TX6 8 ∈ lw_tbl := List.mem_of_getElem? (i := 565) (by decide +kernel)
theorem layX6_9 : u_lay RX6 TX6 9 ∈ lw_tbl := List.mem_of_getElem? (i := 567) (by decide +kernel)
theorem layX6_10 : u_lay RX6 TX6 10 ∈ lw_tbl := List.mem_of_getElem? (i := 569) (by decide +kernel)
theorem layX6_11 : u_lay RX6 TX6 11 ∈ lw_tbl := List.mem_of_getElem? (i := 571) (by decide +kernel)
theorem layX6_12 : u_lay RX6 TX6 12 ∈ lw_tbl := List.mem_of_getElem? (i := 573) (by decide +kernel)
theorem layX6_13 : u_lay RX6 TX6 13 ∈ lw_tbl := List.mem_of_getElem? (i := 575) (by decide +kernel)
theorem layX6_14 : u_lay RX6 TX6 14 ∈ lw_tbl := List.mem_of_getElem? (i := 577) (by decide +kernel)
theorem layX6_15 : u_lay RX6 TX6 15 ∈ lw_tbl := List.mem_of_getElem? (i := 579) (by decide +kernel)
theorem layX6_16 : u_lay RX6 TX6 16 ∈ lw_tbl := List.mem_of_getElem? (i := 581) (by decide +kernel)
theorem layX6_17 : u_lay RX6 TX6 17 ∈ lw_tbl := List.mem_of_getElem? (i := 583) (by decide +kernel)
theorem layX6_18 : u_lay RX6 TX6 18 ∈ lw_tbl := List.mem_of_getElem? (i := 585) (by decide +kernel)
theorem layX6_19 : u_lay RX6 TX6 19 ∈ lw_tbl := List.mem_of_getElem? (i := 587) (by decide +kernel)
theorem layX6_20 : u_lay RX6 TX6 20 ∈ lw_tbl := List.mem_of_getElem? (i := 589) (by decide +kernel)
theorem layX6_21 : u_lay RX6 TX6 21 ∈ lw_tbl := List.mem_of_getElem? (i := 591) (by decide +kernel)
theorem inX6 : ∀ w ∈ u_ws RX6 TX6 22, w ∈ goodTs := by
  intro w h
  obtain ⟨k, hk, rfl⟩ := List.mem_map.mp h
  have hk := List.mem_range.mp hk
  rcases (show k = 0 ∨ k = 1 ∨ k = 2 ∨ k = 3 ∨ k = 4 ∨ k = 5 ∨ k = 6 ∨ k = 7 ∨ k = 8 ∨ k = 9 ∨ k = 10 ∨ k = 11 ∨ k = 12 ∨ k = 13 ∨ k = 14 ∨ k = 15 ∨ k = 16 ∨ k = 17 ∨ k = 18 ∨ k = 19 ∨ k = 20 ∨ k = 21 by omega) with rfl | rfl | rfl | rfl | rfl | rfl | rfl | rfl | rfl | rfl | rfl | rfl | rfl | rfl | rfl | rfl | rfl | rfl | rfl | rfl | rfl | rfl
  · exact goodTs_mem layX6_0 (by decide +kernel)
  · exact goodTs_mem layX6_1 (by decide +kernel)
  · exact goodTs_mem layX6_2 (by decide +kernel)
  · exact goodTs_mem layX6_3 (by decide +kernel)
  · exact goodTs_mem layX6_4 (by decide +kernel)
  · exact goodTs_mem layX6_5 (by decide +kernel)
  · exact goodTs_mem layX6_6 (by decide +kernel)
  · exact goodTs_mem layX6_7 (by decide +kernel)
  · exact goodTs_mem layX6_8 (by decide +kernel)
  · exact goodTs_mem layX6_9 (by decide +kernel)
  · exact goodTs_mem layX6_10 (by decide +kernel)
  · exact goodTs_mem layX6_11 (by decide +kernel)
  · exact goodTs_mem layX6_12 (by decide +kernel)
  · exact goodTs_mem layX6_13 (by decide +kernel)
  · exact goodTs_mem layX6_14 (by decide +kernel)
  · exact goodTs_mem layX6_15 (by decide +kernel)
  · exact goodTs_mem layX6_16 (by decide +kernel)
  · exact goodTs_mem layX6_17 (by decide +kernel)
  · exact goodTs_mem layX6_18 (by decide +kernel)
  · exact goodTs_mem layX6_19 (by decide +kernel)
  · exact goodTs_mem layX6_20 (by decide +kernel)
  · exact goodTs_mem layX6_21 (by decide +kernel)
abbrev vwCl : List vw_C := [(RX0, TX0, 4), (RX1, TX1, 7), (RX2, TX2, 14), (RX3, TX3, 5), (RX5, TX5, 5), (RX6, TX6, 22)]
abbrev cX5_init : ByteArray := prog_1_method_1_code
def yX5_init : MethodName := ⟨RX5, "<init>", "()V"⟩
abbrev cX2_init : ByteArray := prog_4_method_1_code
def yX2_init : MethodName := ⟨RX2, "<init>", "()V"⟩
abbrev cJ7_fill : ByteArray := prog_10_method_103_code
def yJ7_fill : MethodName := ⟨RJ7, "fill", "([II)V"⟩
abbrev cX0_init : ByteArray := prog_2_method_1_code
def yX0_init : MethodName := ⟨RX0, "<init>", "()V"⟩
abbrev cX1_init : ByteArray := prog_3_method_1_code
def yX1_init : MethodName := ⟨RX1, "<init>", "()V"⟩
abbrev cX3_init : ByteArray := prog_5_method_1_code
def yX3_init : MethodName := ⟨RX3, "<init>", "()V"⟩
abbrev cX5_add : ByteArray := prog_1_method_2_code
def yX5_add : MethodName := ⟨RX5, "add", "(IIJ)Z"⟩
abbrev cX5_isClient : ByteArray := prog_1_method_21_code
def yX5_isClient : MethodName := ⟨RX5, "isClient", "(I)Z"⟩
abbrev cX5_isFile : ByteArray := prog_1_method_22_code
def yX5_isFile : MethodName := ⟨RX5, "isFile", "(I)Z"⟩
abbrev cX5_copyOf : ByteArray := prog_1_method_25_code
def yX5_copyOf : MethodName := ⟨RX5, "copyOf", "(II)LRevisionStore$Copy;"⟩
abbrev cX0_hasEntry : ByteArray := prog_2_method_2_code
def yX0_hasEntry : MethodName := ⟨RX0, "hasEntry", "()Z"⟩
abbrev cX4_isClean : ByteArray := prog_6_method_3_code
def yX4_isClean : MethodName := ⟨RX4, "isClean", "(J)Z"⟩
abbrev cX4_isText : ByteArray := prog_6_method_2_code
def yX4_isText : MethodName := ⟨RX4, "isText", "(J)Z"⟩
abbrev cX4_hasMarks : ByteArray := prog_6_method_4_code
def yX4_hasMarks : MethodName := ⟨RX4, "hasMarks", "(J)Z"⟩
abbrev cX0_hold : ByteArray := prog_2_method_5_code
def yX0_hold : MethodName := ⟨RX0, "hold", "(IJ)V"⟩
abbrev cX5_edit : ByteArray := prog_1_method_3_code
def yX5_edit : MethodName := ⟨RX5, "edit", "(IIJ)Z"⟩
abbrev cX0_hasText : ByteArray := prog_2_method_4_code
def yX0_hasText : MethodName := ⟨RX0, "hasText", "()Z"⟩
abbrev cX5_remove : ByteArray := prog_1_method_4_code
def yX5_remove : MethodName := ⟨RX5, "remove", "(II)Z"⟩
abbrev cX0_hasRevision : ByteArray := prog_2_method_3_code
def yX0_hasRevision : MethodName := ⟨RX0, "hasRevision", "()Z"⟩
abbrev cX0_markGone : ByteArray := prog_2_method_6_code
def yX0_markGone : MethodName := ⟨RX0, "markGone", "()V"⟩
abbrev cX0_drop : ByteArray := prog_2_method_7_code
def yX0_drop : MethodName := ⟨RX0, "drop", "()V"⟩
abbrev cX5_commit : ByteArray := prog_1_method_5_code
def yX5_commit : MethodName := ⟨RX5, "commit", "(II)I"⟩
abbrev cX5_commitRefusal : ByteArray := prog_1_method_27_code
def yX5_commitRefusal : MethodName := ⟨RX5, "commitRefusal", "(LRevisionStore$Copy;LRevisionStore$History;)I"⟩
abbrev cX5_isStale : ByteArray := prog_1_method_28_code
def yX5_isStale : MethodName := ⟨RX5, "isStale", "(LRevisionStore$Copy;LRevisionStore$History;)Z"⟩
abbrev cX5_selectedBy : ByteArray := prog_1_method_26_code
def yX5_selectedBy : MethodName := ⟨RX5, "selectedBy", "(LRevisionStore$History;I)I"⟩
abbrev cX2_isThere : ByteArray := prog_4_method_2_code
def yX2_isThere : MethodName := ⟨RX2, "isThere", "()Z"⟩
abbrev cX2_tip : ByteArray := prog_4_method_5_code
def yX2_tip : MethodName := ⟨RX2, "tip", "(I)I"⟩
abbrev cX2_isAlive : ByteArray := prog_4_method_3_code
def yX2_isAlive : MethodName := ⟨RX2, "isAlive", "(I)Z"⟩
abbrev cX5_isModified : ByteArray := prog_1_method_29_code
def yX5_isModified : MethodName := ⟨RX5, "isModified", "(LRevisionStore$Copy;LRevisionStore$History;)Z"⟩
abbrev cX5_hasRoomToCommit : ByteArray := prog_1_method_30_code
def yX5_hasRoomToCommit : MethodName := ⟨RX5, "hasRoomToCommit", "(LRevisionStore$Copy;LRevisionStore$History;)Z"⟩
abbrev cX2_hasRoom : ByteArray := prog_4_method_4_code
def yX2_hasRoom : MethodName := ⟨RX2, "hasRoom", "(II)Z"⟩
abbrev cX5_commitGone : ByteArray := prog_1_method_31_code
def yX5_commitGone : MethodName := ⟨RX5, "commitGone", "(LRevisionStore$Copy;LRevisionStore$History;)I"⟩
abbrev cX5_branchToCommitOn : ByteArray := prog_1_method_33_code
def yX5_branchToCommitOn : MethodName := ⟨RX5, "branchToCommitOn", "(LRevisionStore$Copy;LRevisionStore$History;)I"⟩
abbrev cX2_append : ByteArray := prog_4_method_6_code
def yX2_append : MethodName := ⟨RX2, "append", "(IJZ)I"⟩
abbrev cX2_openBranch : ByteArray := prog_4_method_7_code
def yX2_openBranch : MethodName := ⟨RX2, "openBranch", "(I)I"⟩
abbrev cX2_freeMagic : ByteArray := prog_4_method_10_code
def yX2_freeMagic : MethodName := ⟨RX2, "freeMagic", "(I)I"⟩
abbrev cX2_openBranchWith : ByteArray := prog_4_method_9_code
def yX2_openBranchWith : MethodName := ⟨RX2, "openBranchWith", "(II)I"⟩
abbrev cX5_commitText : ByteArray := prog_1_method_32_code
def yX5_commitText : MethodName := ⟨RX5, "commitText", "(LRevisionStore$Copy;LRevisionStore$History;)I"⟩
abbrev cX5_update : ByteArray := prog_1_method_6_code
def yX5_update : MethodName := ⟨RX5, "update", "(III)I"⟩
abbrev cX5_isStickyWish : ByteArray := prog_1_method_34_code
def yX5_isStickyWish : MethodName := ⟨RX5, "isStickyWish", "(I)Z"⟩
abbrev cX5_isTag : ByteArray := prog_1_method_23_code
def yX5_isTag : MethodName := ⟨RX5, "isTag", "(I)Z"⟩
abbrev cX5_wishedTag : ByteArray := prog_1_method_35_code
def yX5_wishedTag : MethodName := ⟨RX5, "wishedTag", "(LRevisionStore$Copy;I)I"⟩
abbrev cX5_updateCopy : ByteArray := prog_1_method_36_code
def yX5_updateCopy : MethodName := ⟨RX5, "updateCopy", "(LRevisionStore$Copy;LRevisionStore$History;I)I"⟩
abbrev cX5_updateToNothing : ByteArray := prog_1_method_37_code
def yX5_updateToNothing : MethodName := ⟨RX5, "updateToNothing", "(LRevisionStore$Copy;LRevisionStore$History;)I"⟩
abbrev cX5_mergeInto : ByteArray := prog_1_method_38_code
def yX5_mergeInto : MethodName := ⟨RX5, "mergeInto", "(LRevisionStore$Copy;LRevisionStore$History;I)I"⟩
abbrev cX3_merge : ByteArray := prog_5_method_2_code
def yX3_merge : MethodName := ⟨RX3, "merge", "(JJJ)V"⟩
abbrev cX1_compare : ByteArray := prog_3_method_2_code
def yX1_compare : MethodName := ⟨RX1, "compare", "(JJ)V"⟩
abbrev cX4_spread : ByteArray := prog_6_method_6_code
def yX4_spread : MethodName := ⟨RX4, "spread", "(J[I)I"⟩
abbrev cX4_lineCount : ByteArray := prog_6_method_5_code
def yX4_lineCount : MethodName := ⟨RX4, "lineCount", "(J)I"⟩
abbrev cX1_measureRests : ByteArray := prog_3_method_4_code
def yX1_measureRests : MethodName := ⟨RX1, "measureRests", "()V"⟩
abbrev cX1_pairLines : ByteArray := prog_3_method_5_code
def yX1_pairLines : MethodName := ⟨RX1, "pairLines", "()V"⟩
abbrev cX3_mergePart : ByteArray := prog_5_method_4_code
def yX3_mergePart : MethodName := ⟨RX3, "mergePart", "(IIIIII)V"⟩
abbrev cX3_isSame : ByteArray := prog_5_method_5_code
def yX3_isSame : MethodName := ⟨RX3, "isSame", "([III[III)Z"⟩
abbrev cX3_takeAll : ByteArray := prog_5_method_6_code
def yX3_takeAll : MethodName := ⟨RX3, "takeAll", "([III)V"⟩
abbrev cX3_take : ByteArray := prog_5_method_7_code
def yX3_take : MethodName := ⟨RX3, "take", "(I)V"⟩
abbrev cX3_isTooLong : ByteArray := prog_5_method_3_code
def yX3_isTooLong : MethodName := ⟨RX3, "isTooLong", "()Z"⟩
abbrev cX5_tag : ByteArray := prog_1_method_7_code
def yX5_tag : MethodName := ⟨RX5, "tag", "(IIIZ)Z"⟩
abbrev cX5_bring : ByteArray := prog_1_method_8_code
def yX5_bring : MethodName := ⟨RX5, "bring", "(IJ)I"⟩
abbrev cX2_openVendorBranch : ByteArray := prog_4_method_8_code
def yX2_openVendorBranch : MethodName := ⟨RX2, "openVendorBranch", "()V"⟩
abbrev cX5_entry : ByteArray := prog_1_method_9_code
def yX5_entry : MethodName := ⟨RX5, "entry", "(II)I"⟩
abbrev cX5_removed : ByteArray := prog_1_method_10_code
def yX5_removed : MethodName := ⟨RX5, "removed", "(II)Z"⟩
abbrev cX5_local : ByteArray := prog_1_method_11_code
def yX5_local : MethodName := ⟨RX5, "local", "(II)J"⟩
abbrev cX5_selected : ByteArray := prog_1_method_12_code
def yX5_selected : MethodName := ⟨RX5, "selected", "(II)I"⟩
abbrev cX5_sticky : ByteArray := prog_1_method_13_code
def yX5_sticky : MethodName := ⟨RX5, "sticky", "(II)I"⟩
abbrev cX5_revisions : ByteArray := prog_1_method_14_code
def yX5_revisions : MethodName := ⟨RX5, "revisions", "(I)I"⟩
abbrev cX5_number : ByteArray := prog_1_method_15_code
def yX5_number : MethodName := ⟨RX5, "number", "(III)I"⟩
abbrev cX5_isRevision : ByteArray := prog_1_method_24_code
def yX5_isRevision : MethodName := ⟨RX5, "isRevision", "(II)Z"⟩
abbrev cX2_numberPart : ByteArray := prog_4_method_12_code
def yX2_numberPart : MethodName := ⟨RX2, "numberPart", "(II)I"⟩
abbrev cX2_depth : ByteArray := prog_4_method_11_code
def yX2_depth : MethodName := ⟨RX2, "depth", "(I)I"⟩
abbrev cX5_content : ByteArray := prog_1_method_16_code
def yX5_content : MethodName := ⟨RX5, "content", "(II)J"⟩
abbrev cX5_dead : ByteArray := prog_1_method_17_code
def yX5_dead : MethodName := ⟨RX5, "dead", "(II)Z"⟩
abbrev cX5_kept : ByteArray := prog_1_method_18_code
def yX5_kept : MethodName := ⟨RX5, "kept", "(II)I"⟩
abbrev cX2_keptAgainst : ByteArray := prog_4_method_13_code
def yX2_keptAgainst : MethodName := ⟨RX2, "keptAgainst", "(I)I"⟩
abbrev cX2_nextOnTrunk : ByteArray := prog_4_method_14_code
def yX2_nextOnTrunk : MethodName := ⟨RX2, "nextOnTrunk", "(I)I"⟩
abbrev cX1_size : ByteArray := prog_3_method_3_code
def yX1_size : MethodName := ⟨RX1, "size", "()I"⟩
abbrev cX5_named : ByteArray := prog_1_method_19_code
def yX5_named : MethodName := ⟨RX5, "named", "(II)I"⟩
abbrev cX5_standard : ByteArray := prog_1_method_20_code
def yX5_standard : MethodName := ⟨RX5, "standard", "(I)I"⟩
abbrev cX6_init : ByteArray := prog_8_method_1_code
def yX6_init : MethodName := ⟨RX6, "<init>", "()V"⟩
abbrev cX6_add : ByteArray := prog_8_method_23_code
def yX6_add : MethodName := ⟨RX6, "add", "(IIJ)Z"⟩
abbrev cX6_noPair : ByteArray := prog_8_method_3_code
def yX6_noPair : MethodName := ⟨RX6, "noPair", "(II)Z"⟩
abbrev cX6_below : ByteArray := prog_8_method_2_code
def yX6_below : MethodName := ⟨RX6, "below", "(II)Z"⟩
abbrev cX6_noText : ByteArray := prog_8_method_6_code
def yX6_noText : MethodName := ⟨RX6, "noText", "(J)Z"⟩
abbrev cX6_size : ByteArray := prog_8_method_4_code
def yX6_size : MethodName := ⟨RX6, "size", "(J)I"⟩
abbrev cX6_lineOf : ByteArray := prog_8_method_5_code
def yX6_lineOf : MethodName := ⟨RX6, "lineOf", "(JI)I"⟩
abbrev cX6_hasMarks : ByteArray := prog_8_method_7_code
def yX6_hasMarks : MethodName := ⟨RX6, "hasMarks", "(J)Z"⟩
abbrev cX6_edit : ByteArray := prog_8_method_25_code
def yX6_edit : MethodName := ⟨RX6, "edit", "(IIJ)Z"⟩
abbrev cX6_hasLocal : ByteArray := prog_8_method_24_code
def yX6_hasLocal : MethodName := ⟨RX6, "hasLocal", "(I)Z"⟩
abbrev cX6_remove : ByteArray := prog_8_method_26_code
def yX6_remove : MethodName := ⟨RX6, "remove", "(II)Z"⟩
abbrev cX6_commit : ByteArray := prog_8_method_29_code
def yX6_commit : MethodName := ⟨RX6, "commit", "(II)I"⟩
abbrev cX6_bars : ByteArray := prog_8_method_28_code
def yX6_bars : MethodName := ⟨RX6, "bars", "(II)I"⟩
abbrev cX6_selectedBy : ByteArray := prog_8_method_17_code
def yX6_selectedBy : MethodName := ⟨RX6, "selectedBy", "(II)I"⟩
abbrev cX6_last : ByteArray := prog_8_method_16_code
def yX6_last : MethodName := ⟨RX6, "last", "(II)I"⟩
abbrev cX6_noneOrDead : ByteArray := prog_8_method_18_code
def yX6_noneOrDead : MethodName := ⟨RX6, "noneOrDead", "(II)Z"⟩
abbrev cX6_modified : ByteArray := prog_8_method_27_code
def yX6_modified : MethodName := ⟨RX6, "modified", "(II)Z"⟩
abbrev cX6_revise : ByteArray := prog_8_method_19_code
def yX6_revise : MethodName := ⟨RX6, "revise", "(IIJZ)I"⟩
abbrev cX6_freeMagic : ByteArray := prog_8_method_21_code
def yX6_freeMagic : MethodName := ⟨RX6, "freeMagic", "(II)I"⟩
abbrev cX6_branchAt : ByteArray := prog_8_method_20_code
def yX6_branchAt : MethodName := ⟨RX6, "branchAt", "(III)I"⟩
abbrev cX6_update : ByteArray := prog_8_method_32_code
def yX6_update : MethodName := ⟨RX6, "update", "(III)I"⟩
abbrev cX6_updated : ByteArray := prog_8_method_31_code
def yX6_updated : MethodName := ⟨RX6, "updated", "(III)I"⟩
abbrev cX6_take : ByteArray := prog_8_method_30_code
def yX6_take : MethodName := ⟨RX6, "take", "(III)V"⟩
abbrev cX6_merge : ByteArray := prog_8_method_14_code
def yX6_merge : MethodName := ⟨RX6, "merge", "(JJJ)V"⟩
abbrev cX6_pairUp : ByteArray := prog_8_method_10_code
def yX6_pairUp : MethodName := ⟨RX6, "pairUp", "(JJZ)V"⟩
abbrev cX6_fill : ByteArray := prog_8_method_8_code
def yX6_fill : MethodName := ⟨RX6, "fill", "(JJ)V"⟩
abbrev cX6_alike : ByteArray := prog_8_method_11_code
def yX6_alike : MethodName := ⟨RX6, "alike", "(JIIJII)Z"⟩
abbrev cX6_putAll : ByteArray := prog_8_method_13_code
def yX6_putAll : MethodName := ⟨RX6, "putAll", "(JII)V"⟩
abbrev cX6_put : ByteArray := prog_8_method_12_code
def yX6_put : MethodName := ⟨RX6, "put", "(I)V"⟩
abbrev cX6_mergedText : ByteArray := prog_8_method_15_code
def yX6_mergedText : MethodName := ⟨RX6, "mergedText", "()J"⟩
abbrev cX6_tag : ByteArray := prog_8_method_33_code
def yX6_tag : MethodName := ⟨RX6, "tag", "(IIIZ)Z"⟩
abbrev cX6_bring : ByteArray := prog_8_method_34_code
def yX6_bring : MethodName := ⟨RX6, "bring", "(IJ)I"⟩
abbrev cX6_firstOfTrunk : ByteArray := prog_8_method_22_code
def yX6_firstOfTrunk : MethodName := ⟨RX6, "firstOfTrunk", "(I)I"⟩
abbrev cX6_entry : ByteArray := prog_8_method_35_code
def yX6_entry : MethodName := ⟨RX6, "entry", "(II)I"⟩
abbrev cX6_removed : ByteArray := prog_8_method_36_code
def yX6_removed : MethodName := ⟨RX6, "removed", "(II)Z"⟩
abbrev cX6_local : ByteArray := prog_8_method_37_code
def yX6_local : MethodName := ⟨RX6, "local", "(II)J"⟩
abbrev cX6_selected : ByteArray := prog_8_method_38_code
def yX6_selected : MethodName := ⟨RX6, "selected", "(II)I"⟩
abbrev cX6_sticky : ByteArray := prog_8_method_39_code
def yX6_sticky : MethodName := ⟨RX6, "sticky", "(II)I"⟩
abbrev cX6_revisions : ByteArray := prog_8_method_40_code
def yX6_revisions : MethodName := ⟨RX6, "revisions", "(I)I"⟩
abbrev cX6_number : ByteArray := prog_8_method_43_code
def yX6_number : MethodName := ⟨RX6, "number", "(III)I"⟩
abbrev cX6_noRevision : ByteArray := prog_8_method_41_code
def yX6_noRevision : MethodName := ⟨RX6, "noRevision", "(II)Z"⟩
abbrev cX6_parts : ByteArray := prog_8_method_42_code
def yX6_parts : MethodName := ⟨RX6, "parts", "(II)I"⟩
abbrev cX6_content : ByteArray := prog_8_method_44_code
def yX6_content : MethodName := ⟨RX6, "content", "(II)J"⟩
abbrev cX6_dead : ByteArray := prog_8_method_45_code
def yX6_dead : MethodName := ⟨RX6, "dead", "(II)Z"⟩
abbrev cX6_kept : ByteArray := prog_8_method_47_code
def yX6_kept : MethodName := ⟨RX6, "kept", "(II)I"⟩
abbrev cX6_revisionAt : ByteArray := prog_8_method_46_code
def yX6_revisionAt : MethodName := ⟨RX6, "revisionAt", "(III)I"⟩
abbrev cX6_difference : ByteArray := prog_8_method_9_code
def yX6_difference : MethodName := ⟨RX6, "difference", "(JJ)I"⟩
abbrev cX6_named : ByteArray := prog_8_method_48_code
def yX6_named : MethodName := ⟨RX6, "named", "(II)I"⟩
abbrev cX6_standard : ByteArray := prog_8_method_49_code
def yX6_standard : MethodName := ⟨RX6, "standard", "(I)I"⟩
