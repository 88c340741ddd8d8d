/-! names, printed by a program of mine out of the Statement -/
def RX0 : String := "RevisionStore$Copy"
def RX1 : String := "RevisionStore$Difference"
def RX2 : String := "RevisionStore$History"
def RX3 : String := "RevisionStore$Merger"
def RX4 : String := "RevisionStore$Text"
def RX5 : String := "RevisionStore"
def RX6 : String := "RevisionStoreModel"
def RJ7 : String := "java/util/Arrays"
def RL : String := "RevisionStoreLaw"
def TX0 : u_T := fun k => match k with
  | 0 => (RX0, "base", "I", false)
  | 1 => (RX0, "gone", "Z", false)
  | 2 => (RX0, "text", "J", false)
  | _ => (RX0, "stickyTag", "I", false)
def tyX0 : Nat → FieldType := fun k => match k with
  | 0 => .int
  | 1 => .boolean
  | 2 => .long
  | _ => .int
theorem nmX0 : ∀ a, a < 4 → ∀ b, b < 4 → a ≠ b → (TX0 a).2.1 ≠ (TX0 b).2.1 := by decide +kernel
theorem tyX0_ok : ∀ k, k < 4 → parseFieldDescriptor (TX0 k).2.2.1 = some (tyX0 k) := by decide +kernel
theorem layX0_0 : u_lay RX0 TX0 0 ∈ lw_tbl := List.mem_of_getElem? (i := 153) (by decide +kernel)
theorem layX0_1 : u_lay RX0 TX0 1 ∈ lw_tbl := List.mem_of_getElem? (i := 155) (by decide +kernel)
theorem layX0_2 : u_lay RX0 TX0 2 ∈ lw_tbl := List.mem_of_getElem? (i := 157) (by decide +kernel)
theorem layX0_3 : u_lay RX0 TX0 3 ∈ lw_tbl := List.mem_of_getElem? (i := 159) (by decide +kernel)
theorem inX0 : ∀ w ∈ u_ws RX0 TX0 4, w ∈ goodTs := by
  intro w h
  obtain ⟨k, hk, rfl⟩ := List.mem_map.mp h
  have hk := List.mem_range.mp hk
  rcases (show k = 0 ∨ k = 1 ∨ k = 2 ∨ k = 3 by omega) with rfl | rfl | rfl | rfl
  · exact goodTs_mem layX0_0 (by decide +kernel)
  · exact goodTs_mem layX0_1 (by decide +kernel)
  · exact goodTs_mem layX0_2 (by decide +kernel)
  · exact goodTs_mem layX0_3 (by decide +kernel)
def TX1 : u_T := fun k => match k with
  | 0 => (RX1, "first", "[I", true)
  | 1 => (RX1, "second", "[I", true)
  | 2 => (RX1, "firstCount", "I", false)
  | 3 => (RX1, "secondCount", "I", false)
  | 4 => (RX1, "common", "[[I", true)
  | 5 => (RX1, "partners", "[I", true)
  | _ => (RX1, "pairCount", "I", false)
def tyX1 : Nat → FieldType := fun k => match k with
  | 0 => .array .int
  | 1 => .array .int
  | 2 => .int
  | 3 => .int
  | 4 => .array (.array .int)
  | 5 => .array .int
  | _ => .int
theorem nmX1 : ∀ a, a < 7 → ∀ b, b < 7 → a ≠ b → (TX1 a).2.1 ≠ (TX1 b).2.1 := by decide +kernel
theorem tyX1_ok : ∀ k, k < 7 → parseFieldDescriptor (TX1 k).2.2.1 = some (tyX1 k) := by decide +kernel
theorem layX1_0 : u_lay RX1 TX1 0 ∈ lw_tbl := List.mem_of_getElem? (i := 182) (by decide +kernel)
theorem layX1_1 : u_lay RX1 TX1 1 ∈ lw_tbl := List.mem_of_getElem? (i := 184) (by decide +kernel)
theorem layX1_2 : u_lay RX1 TX1 2 ∈ lw_tbl := List.mem_of_getElem? (i := 186) (by decide +kernel)
theorem layX1_3 : u_lay RX1 TX1 3 ∈ lw_tbl := List.mem_of_getElem? (i := 188) (by decide +kernel)
theorem layX1_4 : u_lay RX1 TX1 4 ∈ lw_tbl := List.mem_of_getElem? (i := 190) (by decide +kernel)
theorem layX1_5 : u_lay RX1 TX1 5 ∈ lw_tbl := List.mem_of_getElem? (i := 192) (by decide +kernel)
theorem layX1_6 : u_lay RX1 TX1 6 ∈ lw_tbl := List.mem_of_getElem? (i := 194) (by decide +kernel)
theorem inX1 : ∀ w ∈ u_ws RX1 TX1 7, w ∈ goodTs := by
  intro w h
  obtain ⟨k, hk, rfl⟩ := List.mem_map.mp h
  have hk := List.mem_range.mp hk
  rcases (show k = 0 ∨ k = 1 ∨ k = 2 ∨ k = 3 ∨ k = 4 ∨ k = 5 ∨ k = 6 by omega) with rfl | rfl | rfl | rfl | rfl | rfl | rfl
  · exact goodTs_mem layX1_0 (by decide +kernel)
  · exact goodTs_mem layX1_1 (by decide +kernel)
  · exact goodTs_mem layX1_2 (by decide +kernel)
  · exact goodTs_mem layX1_3 (by decide +kernel)
  · exact goodTs_mem layX1_4 (by decide +kernel)
  · exact goodTs_mem layX1_5 (by decide +kernel)
  · exact goodTs_mem layX1_6 (by decide +kernel)
def TX2 : u_T := fun k => match k with
  | 0 => (RX2, "texts", "[J", true)
  | 1 => (RX2, "deaths", "[Z", true)
  | 2 => (RX2, "homes", "[I", true)
  | 3 => (RX2, "ranks", "[I", true)
  | 4 => (RX2, "befores", "[I", true)
  | 5 => (RX2, "count", "I", false)
  | 6 => (RX2, "points", "[I", true)
  | 7 => (RX2, "magics", "[I", true)
  | 8 => (RX2, "lengths", "[I", true)
  | 9 => (RX2, "tips", "[I", true)
  | 10 => (RX2, "branchCount", "I", false)
  | 11 => (RX2, "vendor", "I", false)
  | 12 => (RX2, "defaultBranch", "I", false)
  | _ => (RX2, "names", "[I", true)
def tyX2 : Nat → FieldType := fun k => match k with
  | 0 => .array .long
  | 1 => .array .boolean
  | 2 => .array .int
  | 3 => .array .int
  | 4 => .array .int
  | 5 => .int
  | 6 => .array .int
  | 7 => .array .int
  | 8 => .array .int
  | 9 => .array .int
  | 10 => .int
  | 11 => .int
  | 12 => .int
  | _ => .array .int
theorem nmX2 : ∀ a, a < 14 → ∀ b, b < 14 → a ≠ b → (TX2 a).2.1 ≠ (TX2 b).2.1 := by decide +kernel
theorem tyX2_ok : ∀ k, k < 14 → parseFieldDescriptor (TX2 k).2.2.1 = some (tyX2 k) := by decide +kernel
theorem layX2_0 : u_lay RX2 TX2 0 ∈ lw_tbl := List.mem_of_getElem? (i := 106) (by decide +kernel)
theorem layX2_1 : u_lay RX2 TX2 1 ∈ lw_tbl := List.mem_of_getElem? (i := 108) (by decide +kernel)
theorem layX2_2 : u_lay RX2 TX2 2 ∈ lw_tbl := List.mem_of_getElem? (i := 110) (by decide +kernel)
theorem layX2_3 : u_lay RX2 TX2 3 ∈ lw_tbl := List.mem_of_getElem? (i := 112) (by decide +kernel)
theorem layX2_4 : u_lay RX2 TX2 4 ∈ lw_tbl := List.mem_of_getElem? (i := 114) (by decide +kernel)
theorem layX2_5 : u_lay RX2 TX2 5 ∈ lw_tbl := List.mem_of_getElem? (i := 116) (by decide +kernel)
theorem layX2_6 : u_lay RX2 TX2 6 ∈ lw_tbl := List.mem_of_getElem? (i := 118) (by decide +kernel)
theorem layX2_7 : u_lay RX2 TX2 7 ∈ lw_tbl := List.mem_of_getElem? (i := 120) (by decide +kernel)
theorem layX2_8 : u_lay RX2 TX2 8 ∈ lw_tbl := List.mem_of_getElem? (i := 122) (by decide +kernel)
theorem layX2_9 : u_lay RX2 TX2 9 ∈ lw_tbl := List.mem_of_getElem? (i := 124) (by decide +kernel)
theorem layX2_10 : u_lay RX2 TX2 10 ∈ lw_tbl := List.mem_of_getElem? (i := 126) (by decide +kernel)
theorem layX2_11 : u_lay RX2 TX2 11 ∈ lw_tbl := List.mem_of_getElem? (i := 128) (by decide +kernel)
theorem layX2_12 : u_lay RX2 TX2 12 ∈ lw_tbl := List.mem_of_getElem? (i := 130) (by decide +kernel)
theorem layX2_13 : u_lay RX2 TX2 13 ∈ lw_tbl := List.mem_of_getElem? (i := 132) (by decide +kernel)
theorem inX2 : ∀ w ∈ u_ws RX2 TX2 14, w ∈ goodTs := by
  intro w h
  obtain ⟨k, hk, rfl⟩ := List.mem_map.mp h
  have hk := List.mem_range.mp hk
  rcases (show k = 0 ∨ k = 1 ∨ k = 2 ∨ k = 3 ∨ k = 4 ∨ k = 5 ∨ k = 6 ∨ k = 7 ∨ k = 8 ∨ k = 9 ∨ k = 10 ∨ k = 11 ∨ k = 12 ∨ k = 13 by omega) with rfl | rfl | rfl | rfl | rfl | rfl | rfl | rfl | rfl | rfl | rfl | rfl | rfl | rfl
  · exact goodTs_mem layX2_0 (by decide +kernel)
  · exact goodTs_mem layX2_1 (by decide +kernel)
  · exact goodTs_mem layX2_2 (by decide +kernel)
  · exact goodTs_mem layX2_3 (by decide +kernel)
  · exact goodTs_mem layX2_4 (by decide +kernel)
  · exact goodTs_mem layX2_5 (by decide +kernel)
  · exact goodTs_mem layX2_6 (by decide +kernel)
  · exact goodTs_mem layX2_7 (by decide +kernel)
  · exact goodTs_mem layX2_8 (by decide +kernel)
  · exact goodTs_mem layX2_9 (by decide +kernel)
  · exact goodTs_mem layX2_10 (by decide +kernel)
  · exact goodTs_mem layX2_11 (by decide +kernel)
  · exact goodTs_mem layX2_12 (by decide +kernel)
  · exact goodTs_mem layX2_13 (by decide +kernel)
def TX3 : u_T := fun k => match k with
  | 0 => (RX3, "mine", "LRevisionStore$Difference;", true)
  | 1 => (RX3, "theirs", "LRevisionStore$Difference;", true)
  | 2 => (RX3, "text", "J", false)
  | 3 => (RX3, "lineCount", "I", false)
  | _ => (RX3, "overlap", "Z", false)
def tyX3 : Nat → FieldType := fun k => match k with
  | 0 => .object "RevisionStore$Difference"
  | 1 => .object "RevisionStore$Difference"
  | 2 => .long
  | 3 => .int
  | _ => .boolean
theorem nmX3 : ∀ a, a < 5 → ∀ b, b < 5 → a ≠ b → (TX3 a).2.1 ≠ (TX3 b).2.1 := by decide +kernel
theorem tyX3_ok : ∀ k, k < 5 → parseFieldDescriptor (TX3 k).2.2.1 = some (tyX3 k) := by decide +kernel
theorem layX3_0 : u_lay RX3 TX3 0 ∈ lw_tbl := List.mem_of_getElem? (i := 212) (by decide +kernel)
theorem layX3_1 : u_lay RX3 TX3 1 ∈ lw_tbl := List.mem_of_getElem? (i := 214) (by decide +kernel)
theorem layX3_2 : u_lay RX3 TX3 2 ∈ lw_tbl := List.mem_of_getElem? (i := 216) (by decide +kernel)
theorem layX3_3 : u_lay RX3 TX3 3 ∈ lw_tbl := List.mem_of_getElem? (i := 218) (by decide +kernel)
theorem layX3_4 : u_lay RX3 TX3 4 ∈ lw_tbl := List.mem_of_getElem? (i := 220) (by decide +kernel)
theorem inX3 : ∀ w ∈ u_ws RX3 TX3 5, w ∈ goodTs := by
  intro w h
  obtain ⟨k, hk, rfl⟩ := List.mem_map.mp h
  have hk := List.mem_range.mp hk
  rcases (show k = 0 ∨ k = 1 ∨ k = 2 ∨ k = 3 ∨ k = 4 by omega) with rfl | rfl | rfl | rfl | rfl
  · exact goodTs_mem layX3_0 (by decide +kernel)
  · exact goodTs_mem layX3_1 (by decide +kernel)
  · exact goodTs_mem layX3_2 (by decide +kernel)
  · exact goodTs_mem layX3_3 (by decide +kernel)
  · exact goodTs_mem layX3_4 (by decide +kernel)
def TX5 : u_T := fun k => match k with
  | 0 => (RX5, "histories", "[LRevisionStore$History;", true)
  | 1 => (RX5, "copies", "[LRevisionStore$Copy;", true)
  | 2 => (RX5, "tagSorts", "[I", true)
  | 3 => (RX5, "difference", "LRevisionStore$Difference;", true)
  | _ => (RX5, "merger", "LRevisionStore$Merger;", true)
def tyX5 : Nat → FieldType := fun k => match k with
  | 0 => .array (.object "RevisionStore$History")
  | 1 => .array (.object "RevisionStore$Copy")
  | 2 => .array .int
  | 3 => .object "RevisionStore$Difference"
  | _ => .object "RevisionStore$Merger"
theorem nmX5 : ∀ a, a < 5 → ∀ b, b < 5 → a ≠ b → (TX5 a).2.1 ≠ (TX5 b).2.1 := by decide +kernel
theorem tyX5_ok : ∀ k, k < 5 → parseFieldDescriptor (TX5 k).2.2.1 = some (tyX5 k) := by decide +kernel
theorem layX5_0 : u_lay RX5 TX5 0 ∈ lw_tbl := List.mem_of_getElem? (i := 228) (by decide +kernel)
theorem layX5_1 : u_lay RX5 TX5 1 ∈ lw_tbl := List.mem_of_getElem? (i := 230) (by decide +kernel)
theorem layX5_2 : u_lay RX5 TX5 2 ∈ lw_tbl := List.mem_of_getElem? (i := 232) (by decide +kernel)
theorem layX5_3 : u_lay RX5 TX5 3 ∈ lw_tbl := List.mem_of_getElem? (i := 234) (by decide +kernel)
theorem layX5_4 : u_lay RX5 TX5 4 ∈ lw_tbl := List.mem_of_getElem? (i := 236) (by decide +kernel)
theorem inX5 : ∀ w ∈ u_ws RX5 TX5 5, w ∈ goodTs := by
  intro w h
  obtain ⟨k, hk, rfl⟩ := List.mem_map.mp h
  have hk := List.mem_range.mp hk
  rcases (show k = 0 ∨ k = 1 ∨ k = 2 ∨ k = 3 ∨ k = 4 by omega) with rfl | rfl | rfl | rfl | rfl
  · exact goodTs_mem layX5_0 (by decide +kernel)
  · exact goodTs_mem layX5_1 (by decide +kernel)
  · exact goodTs_mem layX5_2 (by decide +kernel)
  · exact goodTs_mem layX5_3 (by decide +kernel)
  · exact goodTs_mem layX5_4 (by decide +kernel)
def TX6 : u_T := fun k => match k with
  | 0 => (RX6, "count", "[I", true)
  | 1 => (RX6, "text", "[J", true)
  | 2 => (RX6, "gone", "[Z", true)
  | 3 => (RX6, "branchOf", "[I", true)
  | 4 => (RX6, "place", "[I", true)
  | 5 => (RX6, "branches", "[I", true)
  | 6 => (RX6, "point", "[I", true)
  | 7 => (RX6, "magic", "[I", true)
  | 8 => (RX6, "vendor", "[I", true)
  | 9 => (RX6, "standard", "[I", true)
  | 10 => (RX6, "sort", "[I", true)
  | 11 => (RX6, "names", "[I", true)
  | 12 => (RX6, "entry", "[I", true)
  | 13 => (RX6, "out", "[Z", true)
  | 14 => (RX6, "mine", "[J", true)
  | 15 => (RX6, "stuck", "[I", true)
  | 16 => (RX6, "common", "[I", true)
  | 17 => (RX6, "withA", "[I", true)
  | 18 => (RX6, "withB", "[I", true)
  | 19 => (RX6, "merged", "[I", true)
  | 20 => (RX6, "lines", "I", false)
  | _ => (RX6, "overlaps", "Z", false)
def tyX6 : Nat → FieldType := fun k => match k with
  | 0 => .array .int
  | 1 => .array .long
  | 2 => .array .boolean
  | 3 => .array .int
  | 4 => .array .int
  | 5 => .array .int
  | 6 => .array .int
  | 7 => .array .int
  | 8 => .array .int
  | 9 => .array .int
  | 10 => .array .int
  | 11 => .array .int
  | 12 => .array .int
  | 13 => .array .boolean
  | 14 => .array .long
  | 15 => .array .int
  | 16 => .array .int
  | 17 => .array .int
  | 18 => .array .int
  | 19 => .array .int
  | 20 => .int
  | _ => .boolean
theorem nmX6 : ∀ a, a < 22 → ∀ b, b < 22 → a ≠ b → (TX6 a).2.1 ≠ (TX6 b).2.1 := by decide +kernel
theorem tyX6_ok : ∀ k, k < 22 → parseFieldDescriptor (TX6 k).2.2.1 = some (tyX6 k) := by decide +kernel
theorem layX6_0 : u_lay RX6 TX6 0 ∈ lw_tbl := List.mem_of_getElem? (i := 549) (by decide +kernel)
theorem layX6_1 : u_lay RX6 TX6 1 ∈ lw_tbl := List.mem_of_getElem? (i := 551) (by decide +kernel)
theorem layX6_2 : u_lay RX6 TX6 2 ∈ lw_tbl := List.mem_of_getElem? (i := 553) (by decide +kernel)
theorem layX6_3 : u_lay RX6 TX6 3 ∈ lw_tbl := List.mem_of_getElem? (i := 555) (by decide +kernel)
theorem layX6_4 : u_lay RX6 TX6 4 ∈ lw_tbl := List.mem_of_getElem? (i := 557) (by decide +kernel)
theorem layX6_5 : u_lay RX6 TX6 5 ∈ lw_tbl := List.mem_of_getElem? (i := 559) (by decide +kernel)
theorem layX6_6 : u_lay RX6 TX6 6 ∈ lw_tbl := List.mem_of_getElem? (i := 561) (by decide +kernel)
theorem layX6_7 : u_lay RX6 TX6 7 ∈ lw_tbl := List.mem_of_getElem? (i := 563) (by decide +kernel)
theorem layX6_8 : u_lay RX6 TX6 8 ∈ lw_tbl := List.mem_of_getElem? (i := 565) (by decide +kernel)
theorem layX6_9 : u_lay RX6 TX6 9 ∈ lw_tbl := List.mem_of_getElem? (i := 567) (by decide +kernel)
theorem layX6_10 : u_lay RX6 TX6 10 ∈ lw_tbl := List.mem_of_getElem? (i := 569) (by decide +kernel)
theorem layX6_11 : u_lay RX6 TX6 11 ∈ lw_tbl := List.mem_of_getElem? (i := 571) (by decide +kernel)
theorem layX6_12 : u_lay RX6 TX6 12 ∈ lw_tbl := List.mem_of_getElem? (i := 573) (by decide +kernel)
theorem layX6_13 : u_lay RX6 TX6 13 ∈ lw_tbl := List.mem_of_getElem? (i := 575) (by decide +kernel)
theorem layX6_14 : u_lay RX6 TX6 14 ∈ lw_tbl := List.mem_of_getElem? (i := 577) (by decide +kernel)
theorem layX6_15 : u_lay RX6 TX6 15 ∈ lw_tbl := List.mem_of_getElem? (i := 579) (by decide +kernel)
theorem layX6_16 : u_lay RX6 TX6 16 ∈ lw_tbl := List.mem_of_getElem? (i := 581) (by decide +kernel)
theorem layX6_17 : u_lay RX6 TX6 17 ∈ lw_tbl := List.mem_of_getElem? (i := 583) (by decide +kernel)
theorem layX6_18 : u_lay RX6 TX6 18 ∈ lw_tbl := List.mem_of_getElem? (i := 585) (by decide +kernel)
theorem layX6_19 : u_lay RX6 TX6 19 ∈ lw_tbl := List.mem_of_getElem? (i := 587) (by decide +kernel)
theorem layX6_20 : u_lay RX6 TX6 20 ∈ lw_tbl := List.mem_of_getElem? (i := 589) (by decide +kernel)
theorem layX6_21 : u_lay RX6 TX6 21 ∈ lw_tbl := List.mem_of_getElem? (i := 591) (by decide +kernel)
theorem inX6 : ∀ w ∈ u_ws RX6 TX6 22, w ∈ goodTs := by
  intro w h
  obtain ⟨k, hk, rfl⟩ := List.mem_map.mp h
  have hk := List.mem_range.mp hk
  rcases (show k = 0 ∨ k = 1 ∨ k = 2 ∨ k = 3 ∨ k = 4 ∨ k = 5 ∨ k = 6 ∨ k = 7 ∨ k = 8 ∨ k = 9 ∨ k = 10 ∨ k = 11 ∨ k = 12 ∨ k = 13 ∨ k = 14 ∨ k = 15 ∨ k = 16 ∨ k = 17 ∨ k = 18 ∨ k = 19 ∨ k = 20 ∨ k = 21 by omega) with rfl | rfl | rfl | rfl | rfl | rfl | rfl | rfl | rfl | rfl | rfl | rfl | rfl | rfl | rfl | rfl | rfl | rfl | rfl | rfl | rfl | rfl
  · exact goodTs_mem layX6_0 (by decide +kernel)
  · exact goodTs_mem layX6_1 (by decide +kernel)
  · exact goodTs_mem layX6_2 (by decide +kernel)
  · exact goodTs_mem layX6_3 (by decide +kernel)
  · exact goodTs_mem layX6_4 (by decide +kernel)
  · exact goodTs_mem layX6_5 (by decide +kernel)
  · exact goodTs_mem layX6_6 (by decide +kernel)
  · exact goodTs_mem layX6_7 (by decide +kernel)
  · exact goodTs_mem layX6_8 (by decide +kernel)
  · exact goodTs_mem layX6_9 (by decide +kernel)
  · exact goodTs_mem layX6_10 (by decide +kernel)
  · exact goodTs_mem layX6_11 (by decide +kernel)
  · exact goodTs_mem layX6_12 (by decide +kernel)
  · exact goodTs_mem layX6_13 (by decide +kernel)
  · exact goodTs_mem layX6_14 (by decide +kernel)
  · exact goodTs_mem layX6_15 (by decide +kernel)
  · exact goodTs_mem layX6_16 (by decide +kernel)
  · exact goodTs_mem layX6_17 (by decide +kernel)
  · exact goodTs_mem layX6_18 (by decide +kernel)
  · exact goodTs_mem layX6_19 (by decide +kernel)
  · exact goodTs_mem layX6_20 (by decide +kernel)
  · exact goodTs_mem layX6_21 (by decide +kernel)
abbrev vwCl : List vw_C := [(RX0, TX0, 4), (RX1, TX1, 7), (RX2, TX2, 14), (RX3, TX3, 5), (RX5, TX5, 5), (RX6, TX6, 22)]
abbrev cX5_init : ByteArray := prog_1_method_1_code
def yX5_init : MethodName := ⟨RX5, "<init>", "()V"⟩
abbrev cX2_init : ByteArray := prog_4_method_1_code
def yX2_init : MethodName := ⟨RX2, "<init>", "()V"⟩
abbrev cJ7_fill : ByteArray := prog_10_method_103_code
def yJ7_fill : MethodName := ⟨RJ7, "fill", "([II)V"⟩
abbrev cX0_init : ByteArray := prog_2_method_1_code
def yX0_init : MethodName := ⟨RX0, "<init>", "()V"⟩
abbrev cX1_init : ByteArray := prog_3_method_1_code
def yX1_init : MethodName := ⟨RX1, "<init>", "()V"⟩
abbrev cX3_init : ByteArray := prog_5_method_1_code
def yX3_init : MethodName := ⟨RX3, "<init>", "()V"⟩
abbrev cX5_add : ByteArray := prog_1_method_2_code
def yX5_add : MethodName := ⟨RX5, "add", "(IIJ)Z"⟩
abbrev cX5_isClient : ByteArray := prog_1_method_21_code
def yX5_isClient : MethodName := ⟨RX5, "isClient", "(I)Z"⟩
abbrev cX5_isFile : ByteArray := prog_1_method_22_code
def yX5_isFile : MethodName := ⟨RX5, "isFile", "(I)Z"⟩
abbrev cX5_copyOf : ByteArray := prog_1_method_25_code
def yX5_copyOf : MethodName := ⟨RX5, "copyOf", "(II)LRevisionStore$Copy;"⟩
abbrev cX0_hasEntry : ByteArray := prog_2_method_2_code
def yX0_hasEntry : MethodName := ⟨RX0, "hasEntry", "()Z"⟩
abbrev cX4_isClean : ByteArray := prog_6_method_3_code
def yX4_isClean : MethodName := ⟨RX4, "isClean", "(J)Z"⟩
abbrev cX4_isText : ByteArray := prog_6_method_2_code
def yX4_isText : MethodName := ⟨RX4, "isText", "(J)Z"⟩
abbrev cX4_hasMarks : ByteArray := prog_6_method_4_code
def yX4_hasMarks : MethodName := ⟨RX4, "hasMarks", "(J)Z"⟩
abbrev cX0_hold : ByteArray := prog_2_method_5_code
def yX0_hold : MethodName := ⟨RX0, "hold", "(IJ)V"⟩
abbrev cX5_edit : ByteArray := prog_1_method_3_code
def yX5_edit : MethodName := ⟨RX5, "edit", "(IIJ)Z"⟩
abbrev cX0_hasText : ByteArray := prog_2_method_4_code
def yX0_hasText : MethodName := ⟨RX0, "hasText", "()Z"⟩
abbrev cX5_remove : ByteArray := prog_1_method_4_code
def yX5_remove : MethodName := ⟨RX5, "remove", "(II)Z"⟩
abbrev cX0_hasRevision : ByteArray := prog_2_method_3_code
def yX0_hasRevision : MethodName := ⟨RX0, "hasRevision", "()Z"⟩
abbrev cX0_markGone : ByteArray := prog_2_method_6_code
def yX0_markGone : MethodName := ⟨RX0, "markGone", "()V"⟩
abbrev cX0_drop : ByteArray := prog_2_method_7_code
def yX0_drop : MethodName := ⟨RX0, "drop", "()V"⟩
abbrev cX5_commit : ByteArray := prog_1_method_5_code
def yX5_commit : MethodName := ⟨RX5, "commit", "(II)I"⟩
abbrev cX5_commitRefusal : ByteArray := prog_1_method_27_code
def yX5_commitRefusal : MethodName := ⟨RX5, "commitRefusal", "(LRevisionStore$Copy;LRevisionStore$History;)I"⟩
abbrev cX5_isStale : ByteArray := prog_1_method_28_code
def yX5_isStale : MethodName := ⟨RX5, "isStale", "(LRevisionStore$Copy;LRevisionStore$History;)Z"⟩
abbrev cX5_selectedBy : ByteArray := prog_1_method_26_code
def yX5_selectedBy : MethodName := ⟨RX5, "selectedBy", "(LRevisionStore$History;I)I"⟩
abbrev cX2_isThere : ByteArray := prog_4_method_2_code
def yX2_isThere : MethodName := ⟨RX2, "isThere", "()Z"⟩
abbrev cX2_tip : ByteArray := prog_4_method_5_code
def yX2_tip : MethodName := ⟨RX2, "tip", "(I)I"⟩
abbrev cX2_isAlive : ByteArray := prog_4_method_3_code
def yX2_isAlive : MethodName := ⟨RX2, "isAlive", "(I)Z"⟩
abbrev cX5_isModified : ByteArray := prog_1_method_29_code
def yX5_isModified : MethodName := ⟨RX5, "isModified", "(LRevisionStore$Copy;LRevisionStore$History;)Z"⟩
abbrev cX5_hasRoomToCommit : ByteArray := prog_1_method_30_code
def yX5_hasRoomToCommit : MethodName := ⟨RX5, "hasRoomToCommit", "(LRevisionStore$Copy;LRevisionStore$History;)Z"⟩
abbrev cX2_hasRoom : ByteArray := prog_4_method_4_code
def yX2_hasRoom : MethodName := ⟨RX2, "hasRoom", "(II)Z"⟩
abbrev cX5_commitGone : ByteArray := prog_1_method_31_code
def yX5_commitGone : MethodName := ⟨RX5, "commitGone", "(LRevisionStore$Copy;LRevisionStore$History;)I"⟩
abbrev cX5_branchToCommitOn : ByteArray := prog_1_method_33_code
def yX5_branchToCommitOn : MethodName := ⟨RX5, "branchToCommitOn", "(LRevisionStore$Copy;LRevisionStore$History;)I"⟩
abbrev cX2_append : ByteArray := prog_4_method_6_code
def yX2_append : MethodName := ⟨RX2, "append", "(IJZ)I"⟩
abbrev cX2_openBranch : ByteArray := prog_4_method_7_code
def yX2_openBranch : MethodName := ⟨RX2, "openBranch", "(I)I"⟩
abbrev cX2_freeMagic : ByteArray := prog_4_method_10_code
def yX2_freeMagic : MethodName := ⟨RX2, "freeMagic", "(I)I"⟩
abbrev cX2_openBranchWith : ByteArray := prog_4_method_9_code
def yX2_openBranchWith : MethodName := ⟨RX2, "openBranchWith", "(II)I"⟩
abbrev cX5_commitText : ByteArray := prog_1_method_32_code
def yX5_commitText : MethodName := ⟨RX5, "commitText", "(LRevisionStore$Copy;LRevisionStore$History;)I"⟩
abbrev cX5_update : ByteArray := prog_1_method_6_code
def yX5_update : MethodName := ⟨RX5, "update", "(III)I"⟩
abbrev cX5_isStickyWish : ByteArray := prog_1_method_34_code
def yX5_isStickyWish : MethodName := ⟨RX5, "isStickyWish", "(I)Z"⟩
abbrev cX5_isTag : ByteArray := prog_1_method_23_code
def yX5_isTag : MethodName := ⟨RX5, "isTag", "(I)Z"⟩
abbrev cX5_wishedTag : ByteArray := prog_1_method_35_code
def yX5_wishedTag : MethodName := ⟨RX5, "wishedTag", "(LRevisionStore$Copy;I)I"⟩
abbrev cX5_updateCopy : ByteArray := prog_1_method_36_code
def yX5_updateCopy : MethodName := ⟨RX5, "updateCopy", "(LRevisionStore$Copy;LRevisionStore$History;I)I"⟩
abbrev cX5_updateToNothing : ByteArray := prog_1_method_37_code
def yX5_updateToNothing : MethodName := ⟨RX5, "updateToNothing", "(LRevisionStore$Copy;LRevisionStore$History;)I"⟩
abbrev cX5_mergeInto : ByteArray := prog_1_method_38_code
def yX5_mergeInto : MethodName := ⟨RX5, "mergeInto", "(LRevisionStore$Copy;LRevisionStore$History;I)I"⟩
abbrev cX3_merge : ByteArray := prog_5_method_2_code
def yX3_merge : MethodName := ⟨RX3, "merge", "(JJJ)V"⟩
abbrev cX1_compare : ByteArray := prog_3_method_2_code
def yX1_compare : MethodName := ⟨RX1, "compare", "(JJ)V"⟩
abbrev cX4_spread : ByteArray := prog_6_method_6_code
def yX4_spread : MethodName := ⟨RX4, "spread", "(J[I)I"⟩
abbrev cX4_lineCount : ByteArray := prog_6_method_5_code
def yX4_lineCount : MethodName := ⟨RX4, "lineCount", "(J)I"⟩
abbrev cX1_measureRests : ByteArray := prog_3_method_4_code
def yX1_measureRests : MethodName := ⟨RX1, "measureRests", "()V"⟩
abbrev cX1_pairLines : ByteArray := prog_3_method_5_code
def yX1_pairLines : MethodName := ⟨RX1, "pairLines", "()V"⟩
abbrev cX3_mergePart : ByteArray := prog_5_method_4_code
def yX3_mergePart : MethodName := ⟨RX3, "mergePart", "(IIIIII)V"⟩
abbrev cX3_isSame : ByteArray := prog_5_method_5_code
def yX3_isSame : MethodName := ⟨RX3, "isSame", "([III[III)Z"⟩
abbrev cX3_takeAll : ByteArray := prog_5_method_6_code
def yX3_takeAll : MethodName := ⟨RX3, "takeAll", "([III)V"⟩
abbrev cX3_take : ByteArray := prog_5_method_7_code
def yX3_take : MethodName := ⟨RX3, "take", "(I)V"⟩
abbrev cX3_isTooLong : ByteArray := prog_5_method_3_code
def yX3_isTooLong : MethodName := ⟨RX3, "isTooLong", "()Z"⟩
abbrev cX5_tag : ByteArray := prog_1_method_7_code
def yX5_tag : MethodName := ⟨RX5, "tag", "(IIIZ)Z"⟩
abbrev cX5_bring : ByteArray := prog_1_method_8_code
def yX5_bring : MethodName := ⟨RX5, "bring", "(IJ)I"⟩
abbrev cX2_openVendorBranch : ByteArray := prog_4_method_8_code
def yX2_openVendorBranch : MethodName := ⟨RX2, "openVendorBranch", "()V"⟩
abbrev cX5_entry : ByteArray := prog_1_method_9_code
def yX5_entry : MethodName := ⟨RX5, "entry", "(II)I"⟩
abbrev cX5_removed : ByteArray := prog_1_method_10_code
def yX5_removed : MethodName := ⟨RX5, "removed", "(II)Z"⟩
abbrev cX5_local : ByteArray := prog_1_method_11_code
def yX5_local : MethodName := ⟨RX5, "local", "(II)J"⟩
abbrev cX5_selected : ByteArray := prog_1_method_12_code
def yX5_selected : MethodName := ⟨RX5, "selected", "(II)I"⟩
abbrev cX5_sticky : ByteArray := prog_1_method_13_code
def yX5_sticky : MethodName := ⟨RX5, "sticky", "(II)I"⟩
abbrev cX5_revisions : ByteArray := prog_1_method_14_code
def yX5_revisions : MethodName := ⟨RX5, "revisions", "(I)I"⟩
abbrev cX5_number : ByteArray := prog_1_method_15_code
def yX5_number : MethodName := ⟨RX5, "number", "(III)I"⟩
abbrev cX5_isRevision : ByteArray := prog_1_method_24_code
def yX5_isRevision : MethodName := ⟨RX5, "isRevision", "(II)Z"⟩
abbrev cX2_numberPart : ByteArray := prog_4_method_12_code
def yX2_numberPart : MethodName := ⟨RX2, "numberPart", "(II)I"⟩
abbrev cX2_depth : ByteArray := prog_4_method_11_code
def yX2_depth : MethodName := ⟨RX2, "depth", "(I)I"⟩
abbrev cX5_content : ByteArray := prog_1_method_16_code
def yX5_content : MethodName := ⟨RX5, "content", "(II)J"⟩
abbrev cX5_dead : ByteArray := prog_1_method_17_code
def yX5_dead : MethodName := ⟨RX5, "dead", "(II)Z"⟩
abbrev cX5_kept : ByteArray := prog_1_method_18_code
def yX5_kept : MethodName := ⟨RX5, "kept", "(II)I"⟩
abbrev cX2_keptAgainst : ByteArray := prog_4_method_13_code
def yX2_keptAgainst : MethodName := ⟨RX2, "keptAgainst", "(I)I"⟩
abbrev cX2_nextOnTrunk : ByteArray := prog_4_method_14_code
def yX2_nextOnTrunk : MethodName := ⟨RX2, "nextOnTrunk", "(I)I"⟩
abbrev cX1_size : ByteArray := prog_3_method_3_code
def yX1_size : MethodName := ⟨RX1, "size", "()I"⟩
abbrev cX5_named : ByteArray := prog_1_method_19_code
def yX5_named : MethodName := ⟨RX5, "named", "(II)I"⟩
abbrev cX5_standard : ByteArray := prog_1_method_20_code
def yX5_standard : MethodName := ⟨RX5, "standard", "(I)I"⟩
abbrev cX6_init : ByteArray := prog_8_method_1_code
def yX6_init : MethodName := ⟨RX6, "<init>", "()V"⟩
abbrev cX6_add : ByteArray := prog_8_method_23_code
def yX6_add : MethodName := ⟨RX6, "add", "(IIJ)Z"⟩
abbrev cX6_noPair : ByteArray := prog_8_method_3_code
def yX6_noPair : MethodName := ⟨RX6, "noPair", "(II)Z"⟩
abbrev cX6_below : ByteArray := prog_8_method_2_code
def yX6_below : MethodName := ⟨RX6, "below", "(II)Z"⟩
abbrev cX6_noText : ByteArray := prog_8_method_6_code
def yX6_noText : MethodName := ⟨RX6, "noText", "(J)Z"⟩
abbrev cX6_size : ByteArray := prog_8_method_4_code
def yX6_size : MethodName := ⟨RX6, "size", "(J)I"⟩
abbrev cX6_lineOf : ByteArray := prog_8_method_5_code
def yX6_lineOf : MethodName := ⟨RX6, "lineOf", "(JI)I"⟩
abbrev cX6_hasMarks : ByteArray := prog_8_method_7_code
def yX6_hasMarks : MethodName := ⟨RX6, "hasMarks", "(J)Z"⟩
abbrev cX6_edit : ByteArray := prog_8_method_25_code
def yX6_edit : MethodName := ⟨RX6, "edit", "(IIJ)Z"⟩
abbrev cX6_hasLocal : ByteArray := prog_8_method_24_code
def yX6_hasLocal : MethodName := ⟨RX6, "hasLocal", "(I)Z"⟩
abbrev cX6_remove : ByteArray := prog_8_method_26_code
def yX6_remove : MethodName := ⟨RX6, "remove", "(II)Z"⟩
abbrev cX6_commit : ByteArray := prog_8_method_29_code
def yX6_commit : MethodName := ⟨RX6, "commit", "(II)I"⟩
abbrev cX6_bars : ByteArray := prog_8_method_28_code
def yX6_bars : MethodName := ⟨RX6, "bars", "(II)I"⟩
abbrev cX6_selectedBy : ByteArray := prog_8_method_17_code
def yX6_selectedBy : MethodName := ⟨RX6, "selectedBy", "(II)I"⟩
abbrev cX6_last : ByteArray := prog_8_method_16_code
def yX6_last : MethodName := ⟨RX6, "last", "(II)I"⟩
abbrev cX6_noneOrDead : ByteArray := prog_8_method_18_code
def yX6_noneOrDead : MethodName := ⟨RX6, "noneOrDead", "(II)Z"⟩
abbrev cX6_modified : ByteArray := prog_8_method_27_code
def yX6_modified : MethodName := ⟨RX6, "modified", "(II)Z"⟩
abbrev cX6_revise : ByteArray := prog_8_method_19_code
def yX6_revise : MethodName := ⟨RX6, "revise", "(IIJZ)I"⟩
abbrev cX6_freeMagic : ByteArray := prog_8_method_21_code
def yX6_freeMagic : MethodName := ⟨RX6, "freeMagic", "(II)I"⟩
abbrev cX6_branchAt : ByteArray := prog_8_method_20_code
def yX6_branchAt : MethodName := ⟨RX6, "branchAt", "(III)I"⟩
abbrev cX6_update : ByteArray := prog_8_method_32_code
def yX6_update : MethodName := ⟨RX6, "update", "(III)I"⟩
abbrev cX6_updated : ByteArray := prog_8_method_31_code
def yX6_updated : MethodName := ⟨RX6, "updated", "(III)I"⟩
abbrev cX6_take : ByteArray := prog_8_method_30_code
def yX6_take : MethodName := ⟨RX6, "take", "(III)V"⟩
abbrev cX6_merge : ByteArray := prog_8_method_14_code
def yX6_merge : MethodName := ⟨RX6, "merge", "(JJJ)V"⟩
abbrev cX6_pairUp : ByteArray := prog_8_method_10_code
def yX6_pairUp : MethodName := ⟨RX6, "pairUp", "(JJZ)V"⟩
abbrev cX6_fill : ByteArray := prog_8_method_8_code
def yX6_fill : MethodName := ⟨RX6, "fill", "(JJ)V"⟩
abbrev cX6_alike : ByteArray := prog_8_method_11_code
def yX6_alike : MethodName := ⟨RX6, "alike", "(JIIJII)Z"⟩
abbrev cX6_putAll : ByteArray := prog_8_method_13_code
def yX6_putAll : MethodName := ⟨RX6, "putAll", "(JII)V"⟩
abbrev cX6_put : ByteArray := prog_8_method_12_code
def yX6_put : MethodName := ⟨RX6, "put", "(I)V"⟩
abbrev cX6_mergedText : ByteArray := prog_8_method_15_code
def yX6_mergedText : MethodName := ⟨RX6, "mergedText", "()J"⟩
abbrev cX6_tag : ByteArray := prog_8_method_33_code
def yX6_tag : MethodName := ⟨RX6, "tag", "(IIIZ)Z"⟩
abbrev cX6_bring : ByteArray := prog_8_method_34_code
def yX6_bring : MethodName := ⟨RX6, "bring", "(IJ)I"⟩
abbrev cX6_firstOfTrunk : ByteArray := prog_8_method_22_code
def yX6_firstOfTrunk : MethodName := ⟨RX6, "firstOfTrunk", "(I)I"⟩
abbrev cX6_entry : ByteArray := prog_8_method_35_code
def yX6_entry : MethodName := ⟨RX6, "entry", "(II)I"⟩
abbrev cX6_removed : ByteArray := prog_8_method_36_code
def yX6_removed : MethodName := ⟨RX6, "removed", "(II)Z"⟩
abbrev cX6_local : ByteArray := prog_8_method_37_code
def yX6_local : MethodName := ⟨RX6, "local", "(II)J"⟩
abbrev cX6_selected : ByteArray := prog_8_method_38_code
def yX6_selected : MethodName := ⟨RX6, "selected", "(II)I"⟩
abbrev cX6_sticky : ByteArray := prog_8_method_39_code
def yX6_sticky : MethodName := ⟨RX6, "sticky", "(II)I"⟩
abbrev cX6_revisions : ByteArray := prog_8_method_40_code
def yX6_revisions : MethodName := ⟨RX6, "revisions", "(I)I"⟩
abbrev cX6_number : ByteArray := prog_8_method_43_code
def yX6_number : MethodName := ⟨RX6, "number", "(III)I"⟩
abbrev cX6_noRevision : ByteArray := prog_8_method_41_code
def yX6_noRevision : MethodName := ⟨RX6, "noRevision", "(II)Z"⟩
abbrev cX6_parts : ByteArray := prog_8_method_42_code
def yX6_parts : MethodName := ⟨RX6, "parts", "(II)I"⟩
abbrev cX6_content : ByteArray := prog_8_method_44_code
def yX6_content : MethodName := ⟨RX6, "content", "(II)J"⟩
abbrev cX6_dead : ByteArray := prog_8_method_45_code
def yX6_dead : MethodName := ⟨RX6, "dead", "(II)Z"⟩
abbrev cX6_kept : ByteArray := prog_8_method_47_code
def yX6_kept : MethodName := ⟨RX6, "kept", "(II)I"⟩
abbrev cX6_revisionAt : ByteArray := prog_8_method_46_code
def yX6_revisionAt : MethodName := ⟨RX6, "revisionAt", "(III)I"⟩
abbrev cX6_difference : ByteArray := prog_8_method_9_code
def yX6_difference : MethodName := ⟨RX6, "difference", "(JJ)I"⟩
abbrev cX6_named : ByteArray := prog_8_method_48_code
def yX6_named : MethodName := ⟨RX6, "named", "(II)I"⟩
abbrev cX6_standard : ByteArray := prog_8_method_49_code
def yX6_standard : MethodName := ⟨RX6, "standard", "(I)I"⟩
/-! words, by their places -/
theorem gw_0 : Cond.selects RX5 yX5_copyOf yX5_copyOf ∈ goodTs := goodTs_mem (List.mem_of_getElem? (i := 0) (by decide +kernel)) (by decide +kernel)
theorem gw_1 : Cond.selects RX0 yX0_hasEntry yX0_hasEntry ∈ goodTs := goodTs_mem (List.mem_of_getElem? (i := 1) (by decide +kernel)) (by decide +kernel)
theorem gw_2 : Cond.selects RX0 yX0_hold yX0_hold ∈ goodTs := goodTs_mem (List.mem_of_getElem? (i := 2) (by decide +kernel)) (by decide +kernel)
theorem gw_3 : Cond.selects RX0 yX0_hasText yX0_hasText ∈ goodTs := goodTs_mem (List.mem_of_getElem? (i := 3) (by decide +kernel)) (by decide +kernel)
theorem gw_4 : Cond.selects RX0 yX0_hasRevision yX0_hasRevision ∈ goodTs := goodTs_mem (List.mem_of_getElem? (i := 4) (by decide +kernel)) (by decide +kernel)
theorem gw_5 : Cond.selects RX0 yX0_markGone yX0_markGone ∈ goodTs := goodTs_mem (List.mem_of_getElem? (i := 5) (by decide +kernel)) (by decide +kernel)
theorem gw_6 : Cond.selects RX0 yX0_drop yX0_drop ∈ goodTs := goodTs_mem (List.mem_of_getElem? (i := 6) (by decide +kernel)) (by decide +kernel)
theorem gw_7 : Cond.selects RX5 yX5_commitRefusal yX5_commitRefusal ∈ goodTs := goodTs_mem (List.mem_of_getElem? (i := 7) (by decide +kernel)) (by decide +kernel)
theorem gw_8 : Cond.selects RX5 yX5_isStale yX5_isStale ∈ goodTs := goodTs_mem (List.mem_of_getElem? (i := 8) (by decide +kernel)) (by decide +kernel)
theorem gw_9 : Cond.selects RX5 yX5_selectedBy yX5_selectedBy ∈ goodTs := goodTs_mem (List.mem_of_getElem? (i := 9) (by decide +kernel)) (by decide +kernel)
theorem gw_10 : Cond.selects RX2 yX2_isThere yX2_isThere ∈ goodTs := goodTs_mem (List.mem_of_getElem? (i := 10) (by decide +kernel)) (by decide +kernel)
theorem gw_11 : Cond.selects RX2 yX2_tip yX2_tip ∈ goodTs := goodTs_mem (List.mem_of_getElem? (i := 11) (by decide +kernel)) (by decide +kernel)
theorem gw_12 : Cond.selects RX2 yX2_isAlive yX2_isAlive ∈ goodTs := goodTs_mem (List.mem_of_getElem? (i := 12) (by decide +kernel)) (by decide +kernel)
theorem gw_13 : Cond.selects RX2 yX2_hasRoom yX2_hasRoom ∈ goodTs := goodTs_mem (List.mem_of_getElem? (i := 13) (by decide +kernel)) (by decide +kernel)
theorem gw_14 : Cond.selects RX2 yX2_append yX2_append ∈ goodTs := goodTs_mem (List.mem_of_getElem? (i := 14) (by decide +kernel)) (by decide +kernel)
theorem gw_15 : Cond.selects RX2 yX2_openBranch yX2_openBranch ∈ goodTs := goodTs_mem (List.mem_of_getElem? (i := 15) (by decide +kernel)) (by decide +kernel)
theorem gw_16 : Cond.selects RX2 yX2_freeMagic yX2_freeMagic ∈ goodTs := goodTs_mem (List.mem_of_getElem? (i := 16) (by decide +kernel)) (by decide +kernel)
theorem gw_17 : Cond.selects RX2 yX2_openBranchWith yX2_openBranchWith ∈ goodTs := goodTs_mem (List.mem_of_getElem? (i := 17) (by decide +kernel)) (by decide +kernel)
theorem gw_18 : Cond.selects RX5 yX5_isStickyWish yX5_isStickyWish ∈ goodTs := goodTs_mem (List.mem_of_getElem? (i := 18) (by decide +kernel)) (by decide +kernel)
theorem gw_19 : Cond.selects RX5 yX5_updateCopy yX5_updateCopy ∈ goodTs := goodTs_mem (List.mem_of_getElem? (i := 19) (by decide +kernel)) (by decide +kernel)
theorem gw_20 : Cond.selects RX5 yX5_mergeInto yX5_mergeInto ∈ goodTs := goodTs_mem (List.mem_of_getElem? (i := 20) (by decide +kernel)) (by decide +kernel)
theorem gw_21 : Cond.selects RX3 yX3_merge yX3_merge ∈ goodTs := goodTs_mem (List.mem_of_getElem? (i := 21) (by decide +kernel)) (by decide +kernel)
theorem gw_22 : Cond.selects RX1 yX1_compare yX1_compare ∈ goodTs := goodTs_mem (List.mem_of_getElem? (i := 22) (by decide +kernel)) (by decide +kernel)
theorem gw_23 : Cond.selects RX1 yX1_measureRests yX1_measureRests ∈ goodTs := goodTs_mem (List.mem_of_getElem? (i := 23) (by decide +kernel)) (by decide +kernel)
theorem gw_24 : Cond.selects RX1 yX1_pairLines yX1_pairLines ∈ goodTs := goodTs_mem (List.mem_of_getElem? (i := 24) (by decide +kernel)) (by decide +kernel)
theorem gw_25 : Cond.selects RX3 yX3_mergePart yX3_mergePart ∈ goodTs := goodTs_mem (List.mem_of_getElem? (i := 25) (by decide +kernel)) (by decide +kernel)
theorem gw_26 : Cond.selects RX3 yX3_takeAll yX3_takeAll ∈ goodTs := goodTs_mem (List.mem_of_getElem? (i := 26) (by decide +kernel)) (by decide +kernel)
theorem gw_27 : Cond.selects RX3 yX3_take yX3_take ∈ goodTs := goodTs_mem (List.mem_of_getElem? (i := 27) (by decide +kernel)) (by decide +kernel)
theorem gw_28 : Cond.selects RX3 yX3_isTooLong yX3_isTooLong ∈ goodTs := goodTs_mem (List.mem_of_getElem? (i := 28) (by decide +kernel)) (by decide +kernel)
theorem gw_29 : Cond.selects RX2 yX2_openVendorBranch yX2_openVendorBranch ∈ goodTs := goodTs_mem (List.mem_of_getElem? (i := 29) (by decide +kernel)) (by decide +kernel)
theorem gw_30 : Cond.selects RX5 yX5_isRevision yX5_isRevision ∈ goodTs := goodTs_mem (List.mem_of_getElem? (i := 30) (by decide +kernel)) (by decide +kernel)
theorem gw_31 : Cond.selects RX2 yX2_numberPart yX2_numberPart ∈ goodTs := goodTs_mem (List.mem_of_getElem? (i := 31) (by decide +kernel)) (by decide +kernel)
theorem gw_32 : Cond.selects RX2 yX2_depth yX2_depth ∈ goodTs := goodTs_mem (List.mem_of_getElem? (i := 32) (by decide +kernel)) (by decide +kernel)
theorem gw_33 : Cond.selects RX2 yX2_keptAgainst yX2_keptAgainst ∈ goodTs := goodTs_mem (List.mem_of_getElem? (i := 33) (by decide +kernel)) (by decide +kernel)
theorem gw_34 : Cond.selects RX2 yX2_nextOnTrunk yX2_nextOnTrunk ∈ goodTs := goodTs_mem (List.mem_of_getElem? (i := 34) (by decide +kernel)) (by decide +kernel)
theorem gw_35 : Cond.selects RX1 yX1_size yX1_size ∈ goodTs := goodTs_mem (List.mem_of_getElem? (i := 35) (by decide +kernel)) (by decide +kernel)
theorem gw_36 : Cond.selects RX6 yX6_hasLocal yX6_hasLocal ∈ goodTs := goodTs_mem (List.mem_of_getElem? (i := 36) (by decide +kernel)) (by decide +kernel)
theorem gw_37 : Cond.selects RX6 yX6_bars yX6_bars ∈ goodTs := goodTs_mem (List.mem_of_getElem? (i := 37) (by decide +kernel)) (by decide +kernel)
theorem gw_38 : Cond.selects RX6 yX6_selectedBy yX6_selectedBy ∈ goodTs := goodTs_mem (List.mem_of_getElem? (i := 38) (by decide +kernel)) (by decide +kernel)
theorem gw_39 : Cond.selects RX6 yX6_last yX6_last ∈ goodTs := goodTs_mem (List.mem_of_getElem? (i := 39) (by decide +kernel)) (by decide +kernel)
theorem gw_40 : Cond.selects RX6 yX6_noneOrDead yX6_noneOrDead ∈ goodTs := goodTs_mem (List.mem_of_getElem? (i := 40) (by decide +kernel)) (by decide +kernel)
theorem gw_41 : Cond.selects RX6 yX6_modified yX6_modified ∈ goodTs := goodTs_mem (List.mem_of_getElem? (i := 41) (by decide +kernel)) (by decide +kernel)
theorem gw_42 : Cond.selects RX6 yX6_revise yX6_revise ∈ goodTs := goodTs_mem (List.mem_of_getElem? (i := 42) (by decide +kernel)) (by decide +kernel)
theorem gw_43 : Cond.selects RX6 yX6_freeMagic yX6_freeMagic ∈ goodTs := goodTs_mem (List.mem_of_getElem? (i := 43) (by decide +kernel)) (by decide +kernel)
theorem gw_44 : Cond.selects RX6 yX6_branchAt yX6_branchAt ∈ goodTs := goodTs_mem (List.mem_of_getElem? (i := 44) (by decide +kernel)) (by decide +kernel)
theorem gw_45 : Cond.selects RX6 yX6_updated yX6_updated ∈ goodTs := goodTs_mem (List.mem_of_getElem? (i := 45) (by decide +kernel)) (by decide +kernel)
theorem gw_46 : Cond.selects RX6 yX6_take yX6_take ∈ goodTs := goodTs_mem (List.mem_of_getElem? (i := 46) (by decide +kernel)) (by decide +kernel)
theorem gw_47 : Cond.selects RX6 yX6_merge yX6_merge ∈ goodTs := goodTs_mem (List.mem_of_getElem? (i := 47) (by decide +kernel)) (by decide +kernel)
theorem gw_48 : Cond.selects RX6 yX6_pairUp yX6_pairUp ∈ goodTs := goodTs_mem (List.mem_of_getElem? (i := 48) (by decide +kernel)) (by decide +kernel)
theorem gw_49 : Cond.selects RX6 yX6_fill yX6_fill ∈ goodTs := goodTs_mem (List.mem_of_getElem? (i := 49) (by decide +kernel)) (by decide +kernel)
theorem gw_50 : Cond.selects RX6 yX6_putAll yX6_putAll ∈ goodTs := goodTs_mem (List.mem_of_getElem? (i := 50) (by decide +kernel)) (by decide +kernel)
theorem gw_51 : Cond.selects RX6 yX6_put yX6_put ∈ goodTs := goodTs_mem (List.mem_of_getElem? (i := 51) (by decide +kernel)) (by decide +kernel)
theorem gw_52 : Cond.selects RX6 yX6_mergedText yX6_mergedText ∈ goodTs := goodTs_mem (List.mem_of_getElem? (i := 52) (by decide +kernel)) (by decide +kernel)
theorem gw_53 : Cond.selects RX6 yX6_firstOfTrunk yX6_firstOfTrunk ∈ goodTs := goodTs_mem (List.mem_of_getElem? (i := 53) (by decide +kernel)) (by decide +kernel)
theorem gw_54 : Cond.selects RX6 yX6_noRevision yX6_noRevision ∈ goodTs := goodTs_mem (List.mem_of_getElem? (i := 54) (by decide +kernel)) (by decide +kernel)
theorem gw_55 : Cond.selects RX6 yX6_parts yX6_parts ∈ goodTs := goodTs_mem (List.mem_of_getElem? (i := 55) (by decide +kernel)) (by decide +kernel)
theorem gw_56 : Cond.selects RX6 yX6_revisionAt yX6_revisionAt ∈ goodTs := goodTs_mem (List.mem_of_getElem? (i := 56) (by decide +kernel)) (by decide +kernel)
theorem gw_57 : Cond.selects RX6 yX6_difference yX6_difference ∈ goodTs := goodTs_mem (List.mem_of_getElem? (i := 57) (by decide +kernel)) (by decide +kernel)
theorem gw_59 : Cond.initialized RX5 ∈ goodTs := goodTs_mem (List.mem_of_getElem? (i := 59) (by decide +kernel)) (by decide +kernel)
theorem gw_60 : Cond.initialized RX2 ∈ goodTs := goodTs_mem (List.mem_of_getElem? (i := 60) (by decide +kernel)) (by decide +kernel)
theorem gw_61 : Cond.initialized RJ7 ∈ goodTs := goodTs_mem (List.mem_of_getElem? (i := 61) (by decide +kernel)) (by decide +kernel)
theorem gw_62 : Cond.initialized RX0 ∈ goodTs := goodTs_mem (List.mem_of_getElem? (i := 62) (by decide +kernel)) (by decide +kernel)
theorem gw_63 : Cond.initialized RX1 ∈ goodTs := goodTs_mem (List.mem_of_getElem? (i := 63) (by decide +kernel)) (by decide +kernel)
theorem gw_64 : Cond.initialized RX3 ∈ goodTs := goodTs_mem (List.mem_of_getElem? (i := 64) (by decide +kernel)) (by decide +kernel)
theorem gw_65 : Cond.initialized RX6 ∈ goodTs := goodTs_mem (List.mem_of_getElem? (i := 65) (by decide +kernel)) (by decide +kernel)
theorem gw_66 : Cond.initialized RX4 ∈ goodTs := goodTs_mem (List.mem_of_getElem? (i := 66) (by decide +kernel)) (by decide +kernel)
theorem gw_67 : Cond.initialized "java/lang/Math" ∈ goodTs := goodTs_mem (List.mem_of_getElem? (i := 67) (by decide +kernel)) (by decide +kernel)
theorem gw_84 : Cond.static yJ7_fill ∈ goodTs := goodTs_mem (List.mem_of_getElem? (i := 84) (by decide +kernel)) (by decide +kernel)
theorem gw_85 : Cond.code yJ7_fill cJ7_fill 4 (none) ∈ goodTs := goodTs_mem (List.mem_of_getElem? (i := 85) (by decide +kernel)) (by decide +kernel)
theorem gw_86 : Cond.fieldLink RX2 9 RX2 "texts" "[J" ∈ goodTs := goodTs_mem (List.mem_of_getElem? (i := 86) (by decide +kernel)) (by decide +kernel)
theorem gw_87 : Cond.fieldLinkNest RX5 163 RX2 "texts" "[J" RX5 ∈ lw_tbl := List.mem_of_getElem? (i := 87) (by decide +kernel)
theorem gw_88 : Cond.fieldLink RX2 15 RX2 "deaths" "[Z" ∈ goodTs := goodTs_mem (List.mem_of_getElem? (i := 88) (by decide +kernel)) (by decide +kernel)
theorem gw_89 : Cond.fieldLinkNest RX5 167 RX2 "deaths" "[Z" RX5 ∈ lw_tbl := List.mem_of_getElem? (i := 89) (by decide +kernel)
theorem gw_90 : Cond.fieldLink RX2 19 RX2 "homes" "[I" ∈ goodTs := goodTs_mem (List.mem_of_getElem? (i := 90) (by decide +kernel)) (by decide +kernel)
theorem gw_91 : Cond.fieldLink RX2 23 RX2 "ranks" "[I" ∈ goodTs := goodTs_mem (List.mem_of_getElem? (i := 91) (by decide +kernel)) (by decide +kernel)
theorem gw_92 : Cond.fieldLink RX2 26 RX2 "befores" "[I" ∈ goodTs := goodTs_mem (List.mem_of_getElem? (i := 92) (by decide +kernel)) (by decide +kernel)
theorem gw_93 : Cond.fieldLink RX2 29 RX2 "count" "I" ∈ goodTs := goodTs_mem (List.mem_of_getElem? (i := 93) (by decide +kernel)) (by decide +kernel)
theorem gw_94 : Cond.fieldLinkNest RX5 153 RX2 "count" "I" RX5 ∈ lw_tbl := List.mem_of_getElem? (i := 94) (by decide +kernel)
theorem gw_95 : Cond.fieldLink RX2 33 RX2 "points" "[I" ∈ goodTs := goodTs_mem (List.mem_of_getElem? (i := 95) (by decide +kernel)) (by decide +kernel)
theorem gw_96 : Cond.fieldLink RX2 36 RX2 "magics" "[I" ∈ goodTs := goodTs_mem (List.mem_of_getElem? (i := 96) (by decide +kernel)) (by decide +kernel)
theorem gw_97 : Cond.fieldLink RX2 39 RX2 "lengths" "[I" ∈ goodTs := goodTs_mem (List.mem_of_getElem? (i := 97) (by decide +kernel)) (by decide +kernel)
theorem gw_98 : Cond.fieldLink RX2 42 RX2 "tips" "[I" ∈ goodTs := goodTs_mem (List.mem_of_getElem? (i := 98) (by decide +kernel)) (by decide +kernel)
theorem gw_99 : Cond.fieldLink RX2 45 RX2 "branchCount" "I" ∈ goodTs := goodTs_mem (List.mem_of_getElem? (i := 99) (by decide +kernel)) (by decide +kernel)
theorem gw_100 : Cond.fieldLink RX2 48 RX2 "vendor" "I" ∈ goodTs := goodTs_mem (List.mem_of_getElem? (i := 100) (by decide +kernel)) (by decide +kernel)
theorem gw_101 : Cond.fieldLinkNest RX5 138 RX2 "vendor" "I" RX5 ∈ lw_tbl := List.mem_of_getElem? (i := 101) (by decide +kernel)
theorem gw_103 : Cond.fieldLinkNest RX5 148 RX2 "defaultBranch" "I" RX5 ∈ lw_tbl := List.mem_of_getElem? (i := 103) (by decide +kernel)
theorem gw_105 : Cond.fieldLinkNest RX5 121 RX2 "names" "[I" RX5 ∈ lw_tbl := List.mem_of_getElem? (i := 105) (by decide +kernel)
theorem gw_145 : Cond.fieldLink RX0 9 RX0 "base" "I" ∈ goodTs := goodTs_mem (List.mem_of_getElem? (i := 145) (by decide +kernel)) (by decide +kernel)
theorem gw_146 : Cond.fieldLinkNest RX5 128 RX0 "base" "I" RX5 ∈ lw_tbl := List.mem_of_getElem? (i := 146) (by decide +kernel)
theorem gw_147 : Cond.fieldLink RX0 15 RX0 "gone" "Z" ∈ goodTs := goodTs_mem (List.mem_of_getElem? (i := 147) (by decide +kernel)) (by decide +kernel)
theorem gw_148 : Cond.fieldLinkNest RX5 89 RX0 "gone" "Z" RX5 ∈ lw_tbl := List.mem_of_getElem? (i := 148) (by decide +kernel)
theorem gw_149 : Cond.fieldLink RX0 21 RX0 "text" "J" ∈ goodTs := goodTs_mem (List.mem_of_getElem? (i := 149) (by decide +kernel)) (by decide +kernel)
theorem gw_150 : Cond.fieldLinkNest RX5 72 RX0 "text" "J" RX5 ∈ lw_tbl := List.mem_of_getElem? (i := 150) (by decide +kernel)
theorem gw_152 : Cond.fieldLinkNest RX5 114 RX0 "stickyTag" "I" RX5 ∈ lw_tbl := List.mem_of_getElem? (i := 152) (by decide +kernel)
theorem gw_170 : Cond.fieldLink RX1 9 RX1 "first" "[I" ∈ goodTs := goodTs_mem (List.mem_of_getElem? (i := 170) (by decide +kernel)) (by decide +kernel)
theorem gw_171 : Cond.fieldLinkNest RX3 50 RX1 "first" "[I" RX5 ∈ lw_tbl := List.mem_of_getElem? (i := 171) (by decide +kernel)
theorem gw_172 : Cond.fieldLink RX1 15 RX1 "second" "[I" ∈ goodTs := goodTs_mem (List.mem_of_getElem? (i := 172) (by decide +kernel)) (by decide +kernel)
theorem gw_173 : Cond.fieldLinkNest RX3 60 RX1 "second" "[I" RX5 ∈ lw_tbl := List.mem_of_getElem? (i := 173) (by decide +kernel)
theorem gw_174 : Cond.fieldLink RX1 18 RX1 "firstCount" "I" ∈ goodTs := goodTs_mem (List.mem_of_getElem? (i := 174) (by decide +kernel)) (by decide +kernel)
theorem gw_175 : Cond.fieldLinkNest RX3 39 RX1 "firstCount" "I" RX5 ∈ lw_tbl := List.mem_of_getElem? (i := 175) (by decide +kernel)
theorem gw_176 : Cond.fieldLink RX1 22 RX1 "secondCount" "I" ∈ goodTs := goodTs_mem (List.mem_of_getElem? (i := 176) (by decide +kernel)) (by decide +kernel)
theorem gw_177 : Cond.fieldLinkNest RX3 57 RX1 "secondCount" "I" RX5 ∈ lw_tbl := List.mem_of_getElem? (i := 177) (by decide +kernel)
theorem gw_178 : Cond.fieldLink RX1 27 RX1 "common" "[[I" ∈ goodTs := goodTs_mem (List.mem_of_getElem? (i := 178) (by decide +kernel)) (by decide +kernel)
theorem gw_179 : Cond.fieldLink RX1 30 RX1 "partners" "[I" ∈ goodTs := goodTs_mem (List.mem_of_getElem? (i := 179) (by decide +kernel)) (by decide +kernel)
theorem gw_180 : Cond.fieldLinkNest RX3 42 RX1 "partners" "[I" RX5 ∈ lw_tbl := List.mem_of_getElem? (i := 180) (by decide +kernel)
theorem gw_181 : Cond.fieldLink RX1 33 RX1 "pairCount" "I" ∈ goodTs := goodTs_mem (List.mem_of_getElem? (i := 181) (by decide +kernel)) (by decide +kernel)
theorem gw_205 : Cond.fieldLink RX3 12 RX3 "mine" "LRevisionStore$Difference;" ∈ goodTs := goodTs_mem (List.mem_of_getElem? (i := 205) (by decide +kernel)) (by decide +kernel)
theorem gw_206 : Cond.fieldLink RX3 18 RX3 "theirs" "LRevisionStore$Difference;" ∈ goodTs := goodTs_mem (List.mem_of_getElem? (i := 206) (by decide +kernel)) (by decide +kernel)
theorem gw_207 : Cond.fieldLink RX3 23 RX3 "text" "J" ∈ goodTs := goodTs_mem (List.mem_of_getElem? (i := 207) (by decide +kernel)) (by decide +kernel)
theorem gw_208 : Cond.fieldLinkNest RX5 221 RX3 "text" "J" RX5 ∈ lw_tbl := List.mem_of_getElem? (i := 208) (by decide +kernel)
theorem gw_209 : Cond.fieldLink RX3 27 RX3 "lineCount" "I" ∈ goodTs := goodTs_mem (List.mem_of_getElem? (i := 209) (by decide +kernel)) (by decide +kernel)
theorem gw_210 : Cond.fieldLink RX3 31 RX3 "overlap" "Z" ∈ goodTs := goodTs_mem (List.mem_of_getElem? (i := 210) (by decide +kernel)) (by decide +kernel)
theorem gw_211 : Cond.fieldLinkNest RX5 222 RX3 "overlap" "Z" RX5 ∈ lw_tbl := List.mem_of_getElem? (i := 211) (by decide +kernel)
theorem gw_223 : Cond.fieldLink RX5 11 RX5 "histories" "[LRevisionStore$History;" ∈ goodTs := goodTs_mem (List.mem_of_getElem? (i := 223) (by decide +kernel)) (by decide +kernel)
theorem gw_224 : Cond.fieldLink RX5 18 RX5 "copies" "[LRevisionStore$Copy;" ∈ goodTs := goodTs_mem (List.mem_of_getElem? (i := 224) (by decide +kernel)) (by decide +kernel)
theorem gw_225 : Cond.fieldLink RX5 23 RX5 "tagSorts" "[I" ∈ goodTs := goodTs_mem (List.mem_of_getElem? (i := 225) (by decide +kernel)) (by decide +kernel)
theorem gw_226 : Cond.fieldLink RX5 30 RX5 "difference" "LRevisionStore$Difference;" ∈ goodTs := goodTs_mem (List.mem_of_getElem? (i := 226) (by decide +kernel)) (by decide +kernel)
theorem gw_227 : Cond.fieldLink RX5 37 RX5 "merger" "LRevisionStore$Merger;" ∈ goodTs := goodTs_mem (List.mem_of_getElem? (i := 227) (by decide +kernel)) (by decide +kernel)
theorem gw_243 : Cond.methodLink RX5 41 yX5_isClient ∈ goodTs := goodTs_mem (List.mem_of_getElem? (i := 243) (by decide +kernel)) (by decide +kernel)
theorem gw_244 : Cond.static yX5_isClient ∈ goodTs := goodTs_mem (List.mem_of_getElem? (i := 244) (by decide +kernel)) (by decide +kernel)
theorem gw_245 : Cond.code yX5_isClient cX5_isClient 1 (some .boolean) ∈ goodTs := goodTs_mem (List.mem_of_getElem? (i := 245) (by decide +kernel)) (by decide +kernel)
theorem gw_246 : Cond.methodLink RX5 45 yX5_isFile ∈ goodTs := goodTs_mem (List.mem_of_getElem? (i := 246) (by decide +kernel)) (by decide +kernel)
theorem gw_247 : Cond.static yX5_isFile ∈ goodTs := goodTs_mem (List.mem_of_getElem? (i := 247) (by decide +kernel)) (by decide +kernel)
theorem gw_248 : Cond.code yX5_isFile cX5_isFile 1 (some .boolean) ∈ goodTs := goodTs_mem (List.mem_of_getElem? (i := 248) (by decide +kernel)) (by decide +kernel)
theorem gw_249 : Cond.methodLink RX5 48 yX5_copyOf ∈ goodTs := goodTs_mem (List.mem_of_getElem? (i := 249) (by decide +kernel)) (by decide +kernel)
theorem gw_251 : Cond.instanceMethod yX5_copyOf ∈ goodTs := goodTs_mem (List.mem_of_getElem? (i := 251) (by decide +kernel)) (by decide +kernel)
theorem gw_252 : Cond.code yX5_copyOf cX5_copyOf 3 (some (.object "RevisionStore$Copy")) ∈ goodTs := goodTs_mem (List.mem_of_getElem? (i := 252) (by decide +kernel)) (by decide +kernel)
theorem gw_253 : Cond.methodLinkNest RX5 52 yX0_hasEntry RX5 ∈ lw_tbl := List.mem_of_getElem? (i := 253) (by decide +kernel)
theorem gw_255 : Cond.instanceMethod yX0_hasEntry ∈ goodTs := goodTs_mem (List.mem_of_getElem? (i := 255) (by decide +kernel)) (by decide +kernel)
theorem gw_256 : Cond.code yX0_hasEntry cX0_hasEntry 1 (some .boolean) ∈ goodTs := goodTs_mem (List.mem_of_getElem? (i := 256) (by decide +kernel)) (by decide +kernel)
theorem gw_257 : Cond.methodLinkNest RX5 56 yX4_isClean RX5 ∈ lw_tbl := List.mem_of_getElem? (i := 257) (by decide +kernel)
theorem gw_258 : Cond.static yX4_isClean ∈ goodTs := goodTs_mem (List.mem_of_getElem? (i := 258) (by decide +kernel)) (by decide +kernel)
theorem gw_259 : Cond.code yX4_isClean cX4_isClean 2 (some .boolean) ∈ goodTs := goodTs_mem (List.mem_of_getElem? (i := 259) (by decide +kernel)) (by decide +kernel)
theorem gw_260 : Cond.methodLink RX4 15 yX4_isText ∈ goodTs := goodTs_mem (List.mem_of_getElem? (i := 260) (by decide +kernel)) (by decide +kernel)
theorem gw_261 : Cond.static yX4_isText ∈ goodTs := goodTs_mem (List.mem_of_getElem? (i := 261) (by decide +kernel)) (by decide +kernel)
theorem gw_262 : Cond.code yX4_isText cX4_isText 7 (some .boolean) ∈ goodTs := goodTs_mem (List.mem_of_getElem? (i := 262) (by decide +kernel)) (by decide +kernel)
theorem gw_263 : Cond.constantLong RX4 11 (fL 32) ∈ goodTs := goodTs_mem (List.mem_of_getElem? (i := 263) (by decide +kernel)) (by decide +kernel)
theorem gw_264 : Cond.constantLong RX4 13 (fL 19) ∈ goodTs := goodTs_mem (List.mem_of_getElem? (i := 264) (by decide +kernel)) (by decide +kernel)
theorem gw_265 : Cond.methodLink RX4 19 yX4_hasMarks ∈ goodTs := goodTs_mem (List.mem_of_getElem? (i := 265) (by decide +kernel)) (by decide +kernel)
theorem gw_266 : Cond.static yX4_hasMarks ∈ goodTs := goodTs_mem (List.mem_of_getElem? (i := 266) (by decide +kernel)) (by decide +kernel)
theorem gw_267 : Cond.code yX4_hasMarks cX4_hasMarks 5 (some .boolean) ∈ goodTs := goodTs_mem (List.mem_of_getElem? (i := 267) (by decide +kernel)) (by decide +kernel)
theorem gw_268 : Cond.constantLong RX4 22 (fL 17) ∈ goodTs := goodTs_mem (List.mem_of_getElem? (i := 268) (by decide +kernel)) (by decide +kernel)
theorem gw_269 : Cond.methodLinkNest RX5 62 yX0_hold RX5 ∈ lw_tbl := List.mem_of_getElem? (i := 269) (by decide +kernel)
theorem gw_271 : Cond.instanceMethod yX0_hold ∈ goodTs := goodTs_mem (List.mem_of_getElem? (i := 271) (by decide +kernel)) (by decide +kernel)
theorem gw_272 : Cond.code yX0_hold cX0_hold 4 (none) ∈ goodTs := goodTs_mem (List.mem_of_getElem? (i := 272) (by decide +kernel)) (by decide +kernel)
theorem gw_277 : Cond.methodLinkNest RX5 66 yX0_hasText RX5 ∈ lw_tbl := List.mem_of_getElem? (i := 277) (by decide +kernel)
theorem gw_279 : Cond.instanceMethod yX0_hasText ∈ goodTs := goodTs_mem (List.mem_of_getElem? (i := 279) (by decide +kernel)) (by decide +kernel)
theorem gw_280 : Cond.code yX0_hasText cX0_hasText 1 (some .boolean) ∈ goodTs := goodTs_mem (List.mem_of_getElem? (i := 280) (by decide +kernel)) (by decide +kernel)
theorem gw_281 : Cond.methodLink RX0 28 yX0_hasEntry ∈ goodTs := goodTs_mem (List.mem_of_getElem? (i := 281) (by decide +kernel)) (by decide +kernel)
theorem gw_282 : Cond.methodLinkNest RX5 69 yX4_isText RX5 ∈ lw_tbl := List.mem_of_getElem? (i := 282) (by decide +kernel)
theorem gw_287 : Cond.methodLinkNest RX5 76 yX0_hasRevision RX5 ∈ lw_tbl := List.mem_of_getElem? (i := 287) (by decide +kernel)
theorem gw_289 : Cond.instanceMethod yX0_hasRevision ∈ goodTs := goodTs_mem (List.mem_of_getElem? (i := 289) (by decide +kernel)) (by decide +kernel)
theorem gw_290 : Cond.code yX0_hasRevision cX0_hasRevision 1 (some .boolean) ∈ goodTs := goodTs_mem (List.mem_of_getElem? (i := 290) (by decide +kernel)) (by decide +kernel)
theorem gw_291 : Cond.methodLinkNest RX5 79 yX0_markGone RX5 ∈ lw_tbl := List.mem_of_getElem? (i := 291) (by decide +kernel)
theorem gw_293 : Cond.instanceMethod yX0_markGone ∈ goodTs := goodTs_mem (List.mem_of_getElem? (i := 293) (by decide +kernel)) (by decide +kernel)
theorem gw_294 : Cond.code yX0_markGone cX0_markGone 1 (none) ∈ goodTs := goodTs_mem (List.mem_of_getElem? (i := 294) (by decide +kernel)) (by decide +kernel)
theorem gw_295 : Cond.methodLinkNest RX5 82 yX0_drop RX5 ∈ lw_tbl := List.mem_of_getElem? (i := 295) (by decide +kernel)
theorem gw_297 : Cond.instanceMethod yX0_drop ∈ goodTs := goodTs_mem (List.mem_of_getElem? (i := 297) (by decide +kernel)) (by decide +kernel)
theorem gw_298 : Cond.code yX0_drop cX0_drop 1 (none) ∈ goodTs := goodTs_mem (List.mem_of_getElem? (i := 298) (by decide +kernel)) (by decide +kernel)
theorem gw_303 : Cond.methodLink RX5 85 yX5_commitRefusal ∈ goodTs := goodTs_mem (List.mem_of_getElem? (i := 303) (by decide +kernel)) (by decide +kernel)
theorem gw_305 : Cond.instanceMethod yX5_commitRefusal ∈ goodTs := goodTs_mem (List.mem_of_getElem? (i := 305) (by decide +kernel)) (by decide +kernel)
theorem gw_306 : Cond.code yX5_commitRefusal cX5_commitRefusal 3 (some .int) ∈ goodTs := goodTs_mem (List.mem_of_getElem? (i := 306) (by decide +kernel)) (by decide +kernel)
theorem gw_307 : Cond.methodLink RX5 189 yX5_isStale ∈ goodTs := goodTs_mem (List.mem_of_getElem? (i := 307) (by decide +kernel)) (by decide +kernel)
theorem gw_309 : Cond.instanceMethod yX5_isStale ∈ goodTs := goodTs_mem (List.mem_of_getElem? (i := 309) (by decide +kernel)) (by decide +kernel)
theorem gw_310 : Cond.code yX5_isStale cX5_isStale 4 (some .boolean) ∈ goodTs := goodTs_mem (List.mem_of_getElem? (i := 310) (by decide +kernel)) (by decide +kernel)
theorem gw_311 : Cond.methodLink RX5 106 yX5_selectedBy ∈ goodTs := goodTs_mem (List.mem_of_getElem? (i := 311) (by decide +kernel)) (by decide +kernel)
theorem gw_313 : Cond.instanceMethod yX5_selectedBy ∈ goodTs := goodTs_mem (List.mem_of_getElem? (i := 313) (by decide +kernel)) (by decide +kernel)
theorem gw_314 : Cond.code yX5_selectedBy cX5_selectedBy 4 (some .int) ∈ goodTs := goodTs_mem (List.mem_of_getElem? (i := 314) (by decide +kernel)) (by decide +kernel)
theorem gw_315 : Cond.methodLinkNest RX5 135 yX2_isThere RX5 ∈ lw_tbl := List.mem_of_getElem? (i := 315) (by decide +kernel)
theorem gw_317 : Cond.instanceMethod yX2_isThere ∈ goodTs := goodTs_mem (List.mem_of_getElem? (i := 317) (by decide +kernel)) (by decide +kernel)
theorem gw_318 : Cond.code yX2_isThere cX2_isThere 1 (some .boolean) ∈ goodTs := goodTs_mem (List.mem_of_getElem? (i := 318) (by decide +kernel)) (by decide +kernel)
theorem gw_319 : Cond.methodLinkNest RX5 186 yX2_tip RX5 ∈ lw_tbl := List.mem_of_getElem? (i := 319) (by decide +kernel)
theorem gw_321 : Cond.instanceMethod yX2_tip ∈ goodTs := goodTs_mem (List.mem_of_getElem? (i := 321) (by decide +kernel)) (by decide +kernel)
theorem gw_322 : Cond.code yX2_tip cX2_tip 2 (some .int) ∈ goodTs := goodTs_mem (List.mem_of_getElem? (i := 322) (by decide +kernel)) (by decide +kernel)
theorem gw_323 : Cond.methodLinkNest RX5 202 yX2_isAlive RX5 ∈ lw_tbl := List.mem_of_getElem? (i := 323) (by decide +kernel)
theorem gw_325 : Cond.instanceMethod yX2_isAlive ∈ goodTs := goodTs_mem (List.mem_of_getElem? (i := 325) (by decide +kernel)) (by decide +kernel)
theorem gw_326 : Cond.code yX2_isAlive cX2_isAlive 2 (some .boolean) ∈ goodTs := goodTs_mem (List.mem_of_getElem? (i := 326) (by decide +kernel)) (by decide +kernel)
theorem gw_327 : Cond.methodLink RX5 193 yX5_isModified ∈ goodTs := goodTs_mem (List.mem_of_getElem? (i := 327) (by decide +kernel)) (by decide +kernel)
theorem gw_328 : Cond.static yX5_isModified ∈ goodTs := goodTs_mem (List.mem_of_getElem? (i := 328) (by decide +kernel)) (by decide +kernel)
theorem gw_329 : Cond.code yX5_isModified cX5_isModified 2 (some .boolean) ∈ goodTs := goodTs_mem (List.mem_of_getElem? (i := 329) (by decide +kernel)) (by decide +kernel)
theorem gw_330 : Cond.methodLinkNest RX5 196 yX4_hasMarks RX5 ∈ lw_tbl := List.mem_of_getElem? (i := 330) (by decide +kernel)
theorem gw_331 : Cond.methodLink RX5 199 yX5_hasRoomToCommit ∈ goodTs := goodTs_mem (List.mem_of_getElem? (i := 331) (by decide +kernel)) (by decide +kernel)
theorem gw_332 : Cond.static yX5_hasRoomToCommit ∈ goodTs := goodTs_mem (List.mem_of_getElem? (i := 332) (by decide +kernel)) (by decide +kernel)
theorem gw_333 : Cond.code yX5_hasRoomToCommit cX5_hasRoomToCommit 4 (some .boolean) ∈ goodTs := goodTs_mem (List.mem_of_getElem? (i := 333) (by decide +kernel)) (by decide +kernel)
theorem gw_334 : Cond.methodLinkNest RX5 124 yX2_hasRoom RX5 ∈ lw_tbl := List.mem_of_getElem? (i := 334) (by decide +kernel)
theorem gw_336 : Cond.instanceMethod yX2_hasRoom ∈ goodTs := goodTs_mem (List.mem_of_getElem? (i := 336) (by decide +kernel)) (by decide +kernel)
theorem gw_337 : Cond.code yX2_hasRoom cX2_hasRoom 3 (some .boolean) ∈ goodTs := goodTs_mem (List.mem_of_getElem? (i := 337) (by decide +kernel)) (by decide +kernel)
theorem gw_338 : Cond.methodLink RX5 93 yX5_commitGone ∈ goodTs := goodTs_mem (List.mem_of_getElem? (i := 338) (by decide +kernel)) (by decide +kernel)
theorem gw_339 : Cond.static yX5_commitGone ∈ goodTs := goodTs_mem (List.mem_of_getElem? (i := 339) (by decide +kernel)) (by decide +kernel)
theorem gw_340 : Cond.code yX5_commitGone cX5_commitGone 4 (some .int) ∈ goodTs := goodTs_mem (List.mem_of_getElem? (i := 340) (by decide +kernel)) (by decide +kernel)
theorem gw_341 : Cond.methodLink RX5 205 yX5_branchToCommitOn ∈ goodTs := goodTs_mem (List.mem_of_getElem? (i := 341) (by decide +kernel)) (by decide +kernel)
theorem gw_342 : Cond.static yX5_branchToCommitOn ∈ goodTs := goodTs_mem (List.mem_of_getElem? (i := 342) (by decide +kernel)) (by decide +kernel)
theorem gw_343 : Cond.code yX5_branchToCommitOn cX5_branchToCommitOn 2 (some .int) ∈ goodTs := goodTs_mem (List.mem_of_getElem? (i := 343) (by decide +kernel)) (by decide +kernel)
theorem gw_344 : Cond.methodLinkNest RX5 141 yX2_append RX5 ∈ lw_tbl := List.mem_of_getElem? (i := 344) (by decide +kernel)
theorem gw_346 : Cond.instanceMethod yX2_append ∈ goodTs := goodTs_mem (List.mem_of_getElem? (i := 346) (by decide +kernel)) (by decide +kernel)
theorem gw_347 : Cond.code yX2_append cX2_append 6 (some .int) ∈ goodTs := goodTs_mem (List.mem_of_getElem? (i := 347) (by decide +kernel)) (by decide +kernel)
theorem gw_348 : Cond.methodLinkNest RX5 131 yX2_openBranch RX5 ∈ lw_tbl := List.mem_of_getElem? (i := 348) (by decide +kernel)
theorem gw_350 : Cond.instanceMethod yX2_openBranch ∈ goodTs := goodTs_mem (List.mem_of_getElem? (i := 350) (by decide +kernel)) (by decide +kernel)
theorem gw_351 : Cond.code yX2_openBranch cX2_openBranch 2 (some .int) ∈ goodTs := goodTs_mem (List.mem_of_getElem? (i := 351) (by decide +kernel)) (by decide +kernel)
theorem gw_352 : Cond.methodLink RX2 63 yX2_freeMagic ∈ goodTs := goodTs_mem (List.mem_of_getElem? (i := 352) (by decide +kernel)) (by decide +kernel)
theorem gw_354 : Cond.instanceMethod yX2_freeMagic ∈ goodTs := goodTs_mem (List.mem_of_getElem? (i := 354) (by decide +kernel)) (by decide +kernel)
theorem gw_355 : Cond.code yX2_freeMagic cX2_freeMagic 4 (some .int) ∈ goodTs := goodTs_mem (List.mem_of_getElem? (i := 355) (by decide +kernel)) (by decide +kernel)
theorem gw_356 : Cond.methodLink RX2 67 yX2_openBranchWith ∈ goodTs := goodTs_mem (List.mem_of_getElem? (i := 356) (by decide +kernel)) (by decide +kernel)
theorem gw_358 : Cond.instanceMethod yX2_openBranchWith ∈ goodTs := goodTs_mem (List.mem_of_getElem? (i := 358) (by decide +kernel)) (by decide +kernel)
theorem gw_359 : Cond.code yX2_openBranchWith cX2_openBranchWith 4 (some .int) ∈ goodTs := goodTs_mem (List.mem_of_getElem? (i := 359) (by decide +kernel)) (by decide +kernel)
theorem gw_360 : Cond.methodLink RX5 96 yX5_commitText ∈ goodTs := goodTs_mem (List.mem_of_getElem? (i := 360) (by decide +kernel)) (by decide +kernel)
theorem gw_361 : Cond.static yX5_commitText ∈ goodTs := goodTs_mem (List.mem_of_getElem? (i := 361) (by decide +kernel)) (by decide +kernel)
theorem gw_362 : Cond.code yX5_commitText cX5_commitText 4 (some .int) ∈ goodTs := goodTs_mem (List.mem_of_getElem? (i := 362) (by decide +kernel)) (by decide +kernel)
theorem gw_367 : Cond.methodLink RX5 99 yX5_isStickyWish ∈ goodTs := goodTs_mem (List.mem_of_getElem? (i := 367) (by decide +kernel)) (by decide +kernel)
theorem gw_369 : Cond.instanceMethod yX5_isStickyWish ∈ goodTs := goodTs_mem (List.mem_of_getElem? (i := 369) (by decide +kernel)) (by decide +kernel)
theorem gw_370 : Cond.code yX5_isStickyWish cX5_isStickyWish 2 (some .boolean) ∈ goodTs := goodTs_mem (List.mem_of_getElem? (i := 370) (by decide +kernel)) (by decide +kernel)
theorem gw_371 : Cond.methodLink RX5 118 yX5_isTag ∈ goodTs := goodTs_mem (List.mem_of_getElem? (i := 371) (by decide +kernel)) (by decide +kernel)
theorem gw_372 : Cond.static yX5_isTag ∈ goodTs := goodTs_mem (List.mem_of_getElem? (i := 372) (by decide +kernel)) (by decide +kernel)
theorem gw_373 : Cond.code yX5_isTag cX5_isTag 1 (some .boolean) ∈ goodTs := goodTs_mem (List.mem_of_getElem? (i := 373) (by decide +kernel)) (by decide +kernel)
theorem gw_374 : Cond.methodLink RX5 102 yX5_wishedTag ∈ goodTs := goodTs_mem (List.mem_of_getElem? (i := 374) (by decide +kernel)) (by decide +kernel)
theorem gw_375 : Cond.static yX5_wishedTag ∈ goodTs := goodTs_mem (List.mem_of_getElem? (i := 375) (by decide +kernel)) (by decide +kernel)
theorem gw_376 : Cond.code yX5_wishedTag cX5_wishedTag 2 (some .int) ∈ goodTs := goodTs_mem (List.mem_of_getElem? (i := 376) (by decide +kernel)) (by decide +kernel)
theorem gw_377 : Cond.methodLink RX5 110 yX5_updateCopy ∈ goodTs := goodTs_mem (List.mem_of_getElem? (i := 377) (by decide +kernel)) (by decide +kernel)
theorem gw_379 : Cond.instanceMethod yX5_updateCopy ∈ goodTs := goodTs_mem (List.mem_of_getElem? (i := 379) (by decide +kernel)) (by decide +kernel)
theorem gw_380 : Cond.code yX5_updateCopy cX5_updateCopy 5 (some .int) ∈ goodTs := goodTs_mem (List.mem_of_getElem? (i := 380) (by decide +kernel)) (by decide +kernel)
theorem gw_381 : Cond.methodLink RX5 208 yX5_updateToNothing ∈ goodTs := goodTs_mem (List.mem_of_getElem? (i := 381) (by decide +kernel)) (by decide +kernel)
theorem gw_382 : Cond.static yX5_updateToNothing ∈ goodTs := goodTs_mem (List.mem_of_getElem? (i := 382) (by decide +kernel)) (by decide +kernel)
theorem gw_383 : Cond.code yX5_updateToNothing cX5_updateToNothing 2 (some .int) ∈ goodTs := goodTs_mem (List.mem_of_getElem? (i := 383) (by decide +kernel)) (by decide +kernel)
theorem gw_384 : Cond.methodLink RX5 211 yX5_mergeInto ∈ goodTs := goodTs_mem (List.mem_of_getElem? (i := 384) (by decide +kernel)) (by decide +kernel)
theorem gw_386 : Cond.instanceMethod yX5_mergeInto ∈ goodTs := goodTs_mem (List.mem_of_getElem? (i := 386) (by decide +kernel)) (by decide +kernel)
theorem gw_387 : Cond.code yX5_mergeInto cX5_mergeInto 4 (some .int) ∈ goodTs := goodTs_mem (List.mem_of_getElem? (i := 387) (by decide +kernel)) (by decide +kernel)
theorem gw_388 : Cond.methodLinkNest RX5 214 yX3_merge RX5 ∈ lw_tbl := List.mem_of_getElem? (i := 388) (by decide +kernel)
theorem gw_390 : Cond.instanceMethod yX3_merge ∈ goodTs := goodTs_mem (List.mem_of_getElem? (i := 390) (by decide +kernel)) (by decide +kernel)
theorem gw_391 : Cond.code yX3_merge cX3_merge 13 (none) ∈ goodTs := goodTs_mem (List.mem_of_getElem? (i := 391) (by decide +kernel)) (by decide +kernel)
theorem gw_392 : Cond.methodLinkNest RX3 35 yX1_compare RX5 ∈ lw_tbl := List.mem_of_getElem? (i := 392) (by decide +kernel)
theorem gw_394 : Cond.instanceMethod yX1_compare ∈ goodTs := goodTs_mem (List.mem_of_getElem? (i := 394) (by decide +kernel)) (by decide +kernel)
theorem gw_395 : Cond.code yX1_compare cX1_compare 5 (none) ∈ goodTs := goodTs_mem (List.mem_of_getElem? (i := 395) (by decide +kernel)) (by decide +kernel)
theorem gw_396 : Cond.methodLinkNest RX1 36 yX4_spread RX5 ∈ lw_tbl := List.mem_of_getElem? (i := 396) (by decide +kernel)
theorem gw_397 : Cond.static yX4_spread ∈ goodTs := goodTs_mem (List.mem_of_getElem? (i := 397) (by decide +kernel)) (by decide +kernel)
theorem gw_398 : Cond.code yX4_spread cX4_spread 7 (some .int) ∈ goodTs := goodTs_mem (List.mem_of_getElem? (i := 398) (by decide +kernel)) (by decide +kernel)
theorem gw_399 : Cond.methodLink RX4 24 yX4_lineCount ∈ goodTs := goodTs_mem (List.mem_of_getElem? (i := 399) (by decide +kernel)) (by decide +kernel)
theorem gw_400 : Cond.static yX4_lineCount ∈ goodTs := goodTs_mem (List.mem_of_getElem? (i := 400) (by decide +kernel)) (by decide +kernel)
theorem gw_401 : Cond.code yX4_lineCount cX4_lineCount 5 (some .int) ∈ goodTs := goodTs_mem (List.mem_of_getElem? (i := 401) (by decide +kernel)) (by decide +kernel)
theorem gw_402 : Cond.methodLink RX1 42 yX1_measureRests ∈ goodTs := goodTs_mem (List.mem_of_getElem? (i := 402) (by decide +kernel)) (by decide +kernel)
theorem gw_404 : Cond.instanceMethod yX1_measureRests ∈ goodTs := goodTs_mem (List.mem_of_getElem? (i := 404) (by decide +kernel)) (by decide +kernel)
theorem gw_405 : Cond.code yX1_measureRests cX1_measureRests 3 (none) ∈ goodTs := goodTs_mem (List.mem_of_getElem? (i := 405) (by decide +kernel)) (by decide +kernel)
theorem gw_406 : Cond.methodLink RX1 48 Lib.Math.max.name ∈ goodTs := goodTs_mem (List.mem_of_getElem? (i := 406) (by decide +kernel)) (by decide +kernel)
theorem gw_407 : Cond.static Lib.Math.max.name ∈ goodTs := goodTs_mem (List.mem_of_getElem? (i := 407) (by decide +kernel)) (by decide +kernel)
theorem gw_408 : Cond.code Lib.Math.max.name Lib.Math.max.code 2 (some .int) ∈ goodTs := goodTs_mem (List.mem_of_getElem? (i := 408) (by decide +kernel)) (by decide +kernel)
theorem gw_409 : Cond.methodLink RX1 45 yX1_pairLines ∈ goodTs := goodTs_mem (List.mem_of_getElem? (i := 409) (by decide +kernel)) (by decide +kernel)
theorem gw_411 : Cond.instanceMethod yX1_pairLines ∈ goodTs := goodTs_mem (List.mem_of_getElem? (i := 411) (by decide +kernel)) (by decide +kernel)
theorem gw_412 : Cond.code yX1_pairLines cX1_pairLines 3 (none) ∈ goodTs := goodTs_mem (List.mem_of_getElem? (i := 412) (by decide +kernel)) (by decide +kernel)
theorem gw_413 : Cond.methodLink RX1 54 yJ7_fill ∈ goodTs := goodTs_mem (List.mem_of_getElem? (i := 413) (by decide +kernel)) (by decide +kernel)
theorem gw_414 : Cond.methodLink RX3 46 yX3_mergePart ∈ goodTs := goodTs_mem (List.mem_of_getElem? (i := 414) (by decide +kernel)) (by decide +kernel)
theorem gw_416 : Cond.instanceMethod yX3_mergePart ∈ goodTs := goodTs_mem (List.mem_of_getElem? (i := 416) (by decide +kernel)) (by decide +kernel)
theorem gw_417 : Cond.code yX3_mergePart cX3_mergePart 7 (none) ∈ goodTs := goodTs_mem (List.mem_of_getElem? (i := 417) (by decide +kernel)) (by decide +kernel)
theorem gw_418 : Cond.methodLink RX3 63 yX3_isSame ∈ goodTs := goodTs_mem (List.mem_of_getElem? (i := 418) (by decide +kernel)) (by decide +kernel)
theorem gw_419 : Cond.static yX3_isSame ∈ goodTs := goodTs_mem (List.mem_of_getElem? (i := 419) (by decide +kernel)) (by decide +kernel)
theorem gw_420 : Cond.code yX3_isSame cX3_isSame 7 (some .boolean) ∈ goodTs := goodTs_mem (List.mem_of_getElem? (i := 420) (by decide +kernel)) (by decide +kernel)
theorem gw_421 : Cond.methodLink RX3 67 yX3_takeAll ∈ goodTs := goodTs_mem (List.mem_of_getElem? (i := 421) (by decide +kernel)) (by decide +kernel)
theorem gw_423 : Cond.instanceMethod yX3_takeAll ∈ goodTs := goodTs_mem (List.mem_of_getElem? (i := 423) (by decide +kernel)) (by decide +kernel)
theorem gw_424 : Cond.code yX3_takeAll cX3_takeAll 5 (none) ∈ goodTs := goodTs_mem (List.mem_of_getElem? (i := 424) (by decide +kernel)) (by decide +kernel)
theorem gw_425 : Cond.methodLink RX3 53 yX3_take ∈ goodTs := goodTs_mem (List.mem_of_getElem? (i := 425) (by decide +kernel)) (by decide +kernel)
theorem gw_427 : Cond.instanceMethod yX3_take ∈ goodTs := goodTs_mem (List.mem_of_getElem? (i := 427) (by decide +kernel)) (by decide +kernel)
theorem gw_428 : Cond.code yX3_take cX3_take 2 (none) ∈ goodTs := goodTs_mem (List.mem_of_getElem? (i := 428) (by decide +kernel)) (by decide +kernel)
theorem gw_429 : Cond.constantLong RX3 71 (fL 32) ∈ goodTs := goodTs_mem (List.mem_of_getElem? (i := 429) (by decide +kernel)) (by decide +kernel)
theorem gw_430 : Cond.methodLinkNest RX5 218 yX3_isTooLong RX5 ∈ lw_tbl := List.mem_of_getElem? (i := 430) (by decide +kernel)
theorem gw_432 : Cond.instanceMethod yX3_isTooLong ∈ goodTs := goodTs_mem (List.mem_of_getElem? (i := 432) (by decide +kernel)) (by decide +kernel)
theorem gw_433 : Cond.code yX3_isTooLong cX3_isTooLong 1 (some .boolean) ∈ goodTs := goodTs_mem (List.mem_of_getElem? (i := 433) (by decide +kernel)) (by decide +kernel)
theorem gw_442 : Cond.methodLinkNest RX5 145 yX2_openVendorBranch RX5 ∈ lw_tbl := List.mem_of_getElem? (i := 442) (by decide +kernel)
theorem gw_444 : Cond.instanceMethod yX2_openVendorBranch ∈ goodTs := goodTs_mem (List.mem_of_getElem? (i := 444) (by decide +kernel)) (by decide +kernel)
theorem gw_445 : Cond.code yX2_openVendorBranch cX2_openVendorBranch 1 (none) ∈ goodTs := goodTs_mem (List.mem_of_getElem? (i := 445) (by decide +kernel)) (by decide +kernel)
theorem gw_458 : Cond.constantLong RX5 151 (fL (-1)) ∈ goodTs := goodTs_mem (List.mem_of_getElem? (i := 458) (by decide +kernel)) (by decide +kernel)
theorem gw_475 : Cond.methodLink RX5 156 yX5_isRevision ∈ goodTs := goodTs_mem (List.mem_of_getElem? (i := 475) (by decide +kernel)) (by decide +kernel)
theorem gw_477 : Cond.instanceMethod yX5_isRevision ∈ goodTs := goodTs_mem (List.mem_of_getElem? (i := 477) (by decide +kernel)) (by decide +kernel)
theorem gw_478 : Cond.code yX5_isRevision cX5_isRevision 3 (some .boolean) ∈ goodTs := goodTs_mem (List.mem_of_getElem? (i := 478) (by decide +kernel)) (by decide +kernel)
theorem gw_479 : Cond.methodLinkNest RX5 159 yX2_numberPart RX5 ∈ lw_tbl := List.mem_of_getElem? (i := 479) (by decide +kernel)
theorem gw_481 : Cond.instanceMethod yX2_numberPart ∈ goodTs := goodTs_mem (List.mem_of_getElem? (i := 481) (by decide +kernel)) (by decide +kernel)
theorem gw_482 : Cond.code yX2_numberPart cX2_numberPart 7 (some .int) ∈ goodTs := goodTs_mem (List.mem_of_getElem? (i := 482) (by decide +kernel)) (by decide +kernel)
theorem gw_483 : Cond.methodLink RX2 71 yX2_depth ∈ goodTs := goodTs_mem (List.mem_of_getElem? (i := 483) (by decide +kernel)) (by decide +kernel)
theorem gw_485 : Cond.instanceMethod yX2_depth ∈ goodTs := goodTs_mem (List.mem_of_getElem? (i := 485) (by decide +kernel)) (by decide +kernel)
theorem gw_486 : Cond.code yX2_depth cX2_depth 5 (some .int) ∈ goodTs := goodTs_mem (List.mem_of_getElem? (i := 486) (by decide +kernel)) (by decide +kernel)
theorem gw_499 : Cond.methodLinkNest RX5 171 yX2_keptAgainst RX5 ∈ lw_tbl := List.mem_of_getElem? (i := 499) (by decide +kernel)
theorem gw_501 : Cond.instanceMethod yX2_keptAgainst ∈ goodTs := goodTs_mem (List.mem_of_getElem? (i := 501) (by decide +kernel)) (by decide +kernel)
theorem gw_502 : Cond.code yX2_keptAgainst cX2_keptAgainst 2 (some .int) ∈ goodTs := goodTs_mem (List.mem_of_getElem? (i := 502) (by decide +kernel)) (by decide +kernel)
theorem gw_503 : Cond.methodLink RX2 74 yX2_nextOnTrunk ∈ goodTs := goodTs_mem (List.mem_of_getElem? (i := 503) (by decide +kernel)) (by decide +kernel)
theorem gw_505 : Cond.instanceMethod yX2_nextOnTrunk ∈ goodTs := goodTs_mem (List.mem_of_getElem? (i := 505) (by decide +kernel)) (by decide +kernel)
theorem gw_506 : Cond.code yX2_nextOnTrunk cX2_nextOnTrunk 3 (some .int) ∈ goodTs := goodTs_mem (List.mem_of_getElem? (i := 506) (by decide +kernel)) (by decide +kernel)
theorem gw_507 : Cond.methodLinkNest RX5 174 yX4_lineCount RX5 ∈ lw_tbl := List.mem_of_getElem? (i := 507) (by decide +kernel)
theorem gw_508 : Cond.methodLinkNest RX5 178 yX1_compare RX5 ∈ lw_tbl := List.mem_of_getElem? (i := 508) (by decide +kernel)
theorem gw_509 : Cond.methodLinkNest RX5 182 yX1_size RX5 ∈ lw_tbl := List.mem_of_getElem? (i := 509) (by decide +kernel)
theorem gw_511 : Cond.instanceMethod yX1_size ∈ goodTs := goodTs_mem (List.mem_of_getElem? (i := 511) (by decide +kernel)) (by decide +kernel)
theorem gw_512 : Cond.code yX1_size cX1_size 1 (some .int) ∈ goodTs := goodTs_mem (List.mem_of_getElem? (i := 512) (by decide +kernel)) (by decide +kernel)
theorem gw_527 : Cond.fieldLink RX6 7 RX6 "count" "[I" ∈ goodTs := goodTs_mem (List.mem_of_getElem? (i := 527) (by decide +kernel)) (by decide +kernel)
theorem gw_528 : Cond.fieldLink RX6 13 RX6 "text" "[J" ∈ goodTs := goodTs_mem (List.mem_of_getElem? (i := 528) (by decide +kernel)) (by decide +kernel)
theorem gw_529 : Cond.fieldLink RX6 17 RX6 "gone" "[Z" ∈ goodTs := goodTs_mem (List.mem_of_getElem? (i := 529) (by decide +kernel)) (by decide +kernel)
theorem gw_530 : Cond.fieldLink RX6 21 RX6 "branchOf" "[I" ∈ goodTs := goodTs_mem (List.mem_of_getElem? (i := 530) (by decide +kernel)) (by decide +kernel)
theorem gw_531 : Cond.fieldLink RX6 24 RX6 "place" "[I" ∈ goodTs := goodTs_mem (List.mem_of_getElem? (i := 531) (by decide +kernel)) (by decide +kernel)
theorem gw_532 : Cond.fieldLink RX6 27 RX6 "branches" "[I" ∈ goodTs := goodTs_mem (List.mem_of_getElem? (i := 532) (by decide +kernel)) (by decide +kernel)
theorem gw_533 : Cond.fieldLink RX6 30 RX6 "point" "[I" ∈ goodTs := goodTs_mem (List.mem_of_getElem? (i := 533) (by decide +kernel)) (by decide +kernel)
theorem gw_534 : Cond.fieldLink RX6 33 RX6 "magic" "[I" ∈ goodTs := goodTs_mem (List.mem_of_getElem? (i := 534) (by decide +kernel)) (by decide +kernel)
theorem gw_535 : Cond.fieldLink RX6 36 RX6 "vendor" "[I" ∈ goodTs := goodTs_mem (List.mem_of_getElem? (i := 535) (by decide +kernel)) (by decide +kernel)
theorem gw_536 : Cond.fieldLink RX6 39 RX6 "standard" "[I" ∈ goodTs := goodTs_mem (List.mem_of_getElem? (i := 536) (by decide +kernel)) (by decide +kernel)
theorem gw_537 : Cond.fieldLink RX6 42 RX6 "sort" "[I" ∈ goodTs := goodTs_mem (List.mem_of_getElem? (i := 537) (by decide +kernel)) (by decide +kernel)
theorem gw_538 : Cond.fieldLink RX6 45 RX6 "names" "[I" ∈ goodTs := goodTs_mem (List.mem_of_getElem? (i := 538) (by decide +kernel)) (by decide +kernel)
theorem gw_539 : Cond.fieldLink RX6 48 RX6 "entry" "[I" ∈ goodTs := goodTs_mem (List.mem_of_getElem? (i := 539) (by decide +kernel)) (by decide +kernel)
theorem gw_540 : Cond.fieldLink RX6 51 RX6 "out" "[Z" ∈ goodTs := goodTs_mem (List.mem_of_getElem? (i := 540) (by decide +kernel)) (by decide +kernel)
theorem gw_541 : Cond.fieldLink RX6 54 RX6 "mine" "[J" ∈ goodTs := goodTs_mem (List.mem_of_getElem? (i := 541) (by decide +kernel)) (by decide +kernel)
theorem gw_542 : Cond.fieldLink RX6 57 RX6 "stuck" "[I" ∈ goodTs := goodTs_mem (List.mem_of_getElem? (i := 542) (by decide +kernel)) (by decide +kernel)
theorem gw_543 : Cond.fieldLink RX6 60 RX6 "common" "[I" ∈ goodTs := goodTs_mem (List.mem_of_getElem? (i := 543) (by decide +kernel)) (by decide +kernel)
theorem gw_544 : Cond.fieldLink RX6 63 RX6 "withA" "[I" ∈ goodTs := goodTs_mem (List.mem_of_getElem? (i := 544) (by decide +kernel)) (by decide +kernel)
theorem gw_545 : Cond.fieldLink RX6 66 RX6 "withB" "[I" ∈ goodTs := goodTs_mem (List.mem_of_getElem? (i := 545) (by decide +kernel)) (by decide +kernel)
theorem gw_546 : Cond.fieldLink RX6 69 RX6 "merged" "[I" ∈ goodTs := goodTs_mem (List.mem_of_getElem? (i := 546) (by decide +kernel)) (by decide +kernel)
theorem gw_547 : Cond.fieldLink RX6 92 RX6 "lines" "I" ∈ goodTs := goodTs_mem (List.mem_of_getElem? (i := 547) (by decide +kernel)) (by decide +kernel)
theorem gw_548 : Cond.fieldLink RX6 104 RX6 "overlaps" "Z" ∈ goodTs := goodTs_mem (List.mem_of_getElem? (i := 548) (by decide +kernel)) (by decide +kernel)
theorem gw_598 : Cond.methodLink RX6 120 yX6_noPair ∈ goodTs := goodTs_mem (List.mem_of_getElem? (i := 598) (by decide +kernel)) (by decide +kernel)
theorem gw_599 : Cond.static yX6_noPair ∈ goodTs := goodTs_mem (List.mem_of_getElem? (i := 599) (by decide +kernel)) (by decide +kernel)
theorem gw_600 : Cond.code yX6_noPair cX6_noPair 2 (some .boolean) ∈ goodTs := goodTs_mem (List.mem_of_getElem? (i := 600) (by decide +kernel)) (by decide +kernel)
theorem gw_601 : Cond.methodLink RX6 72 yX6_below ∈ goodTs := goodTs_mem (List.mem_of_getElem? (i := 601) (by decide +kernel)) (by decide +kernel)
theorem gw_602 : Cond.static yX6_below ∈ goodTs := goodTs_mem (List.mem_of_getElem? (i := 602) (by decide +kernel)) (by decide +kernel)
theorem gw_603 : Cond.code yX6_below cX6_below 2 (some .boolean) ∈ goodTs := goodTs_mem (List.mem_of_getElem? (i := 603) (by decide +kernel)) (by decide +kernel)
theorem gw_604 : Cond.methodLink RX6 123 yX6_noText ∈ goodTs := goodTs_mem (List.mem_of_getElem? (i := 604) (by decide +kernel)) (by decide +kernel)
theorem gw_605 : Cond.static yX6_noText ∈ goodTs := goodTs_mem (List.mem_of_getElem? (i := 605) (by decide +kernel)) (by decide +kernel)
theorem gw_606 : Cond.code yX6_noText cX6_noText 4 (some .boolean) ∈ goodTs := goodTs_mem (List.mem_of_getElem? (i := 606) (by decide +kernel)) (by decide +kernel)
theorem gw_607 : Cond.methodLink RX6 78 yX6_size ∈ goodTs := goodTs_mem (List.mem_of_getElem? (i := 607) (by decide +kernel)) (by decide +kernel)
theorem gw_608 : Cond.static yX6_size ∈ goodTs := goodTs_mem (List.mem_of_getElem? (i := 608) (by decide +kernel)) (by decide +kernel)
theorem gw_609 : Cond.code yX6_size cX6_size 5 (some .int) ∈ goodTs := goodTs_mem (List.mem_of_getElem? (i := 609) (by decide +kernel)) (by decide +kernel)
theorem gw_610 : Cond.constantLong RX6 76 (fL 32) ∈ goodTs := goodTs_mem (List.mem_of_getElem? (i := 610) (by decide +kernel)) (by decide +kernel)
theorem gw_611 : Cond.methodLink RX6 84 yX6_lineOf ∈ goodTs := goodTs_mem (List.mem_of_getElem? (i := 611) (by decide +kernel)) (by decide +kernel)
theorem gw_612 : Cond.static yX6_lineOf ∈ goodTs := goodTs_mem (List.mem_of_getElem? (i := 612) (by decide +kernel)) (by decide +kernel)
theorem gw_613 : Cond.code yX6_lineOf cX6_lineOf 3 (some .int) ∈ goodTs := goodTs_mem (List.mem_of_getElem? (i := 613) (by decide +kernel)) (by decide +kernel)
theorem gw_614 : Cond.constantLong RX6 82 (fL 31) ∈ goodTs := goodTs_mem (List.mem_of_getElem? (i := 614) (by decide +kernel)) (by decide +kernel)
theorem gw_615 : Cond.methodLink RX6 127 yX6_hasMarks ∈ goodTs := goodTs_mem (List.mem_of_getElem? (i := 615) (by decide +kernel)) (by decide +kernel)
theorem gw_616 : Cond.static yX6_hasMarks ∈ goodTs := goodTs_mem (List.mem_of_getElem? (i := 616) (by decide +kernel)) (by decide +kernel)
theorem gw_617 : Cond.code yX6_hasMarks cX6_hasMarks 4 (some .boolean) ∈ goodTs := goodTs_mem (List.mem_of_getElem? (i := 617) (by decide +kernel)) (by decide +kernel)
theorem gw_622 : Cond.methodLink RX6 130 yX6_hasLocal ∈ goodTs := goodTs_mem (List.mem_of_getElem? (i := 622) (by decide +kernel)) (by decide +kernel)
theorem gw_624 : Cond.instanceMethod yX6_hasLocal ∈ goodTs := goodTs_mem (List.mem_of_getElem? (i := 624) (by decide +kernel)) (by decide +kernel)
theorem gw_625 : Cond.code yX6_hasLocal cX6_hasLocal 2 (some .boolean) ∈ goodTs := goodTs_mem (List.mem_of_getElem? (i := 625) (by decide +kernel)) (by decide +kernel)
theorem gw_634 : Cond.methodLink RX6 143 yX6_bars ∈ goodTs := goodTs_mem (List.mem_of_getElem? (i := 634) (by decide +kernel)) (by decide +kernel)
theorem gw_636 : Cond.instanceMethod yX6_bars ∈ goodTs := goodTs_mem (List.mem_of_getElem? (i := 636) (by decide +kernel)) (by decide +kernel)
theorem gw_637 : Cond.code yX6_bars cX6_bars 8 (some .int) ∈ goodTs := goodTs_mem (List.mem_of_getElem? (i := 637) (by decide +kernel)) (by decide +kernel)
theorem gw_638 : Cond.methodLink RX6 134 yX6_selectedBy ∈ goodTs := goodTs_mem (List.mem_of_getElem? (i := 638) (by decide +kernel)) (by decide +kernel)
theorem gw_640 : Cond.instanceMethod yX6_selectedBy ∈ goodTs := goodTs_mem (List.mem_of_getElem? (i := 640) (by decide +kernel)) (by decide +kernel)
theorem gw_641 : Cond.code yX6_selectedBy cX6_selectedBy 5 (some .int) ∈ goodTs := goodTs_mem (List.mem_of_getElem? (i := 641) (by decide +kernel)) (by decide +kernel)
theorem gw_642 : Cond.methodLink RX6 116 yX6_last ∈ goodTs := goodTs_mem (List.mem_of_getElem? (i := 642) (by decide +kernel)) (by decide +kernel)
theorem gw_644 : Cond.instanceMethod yX6_last ∈ goodTs := goodTs_mem (List.mem_of_getElem? (i := 644) (by decide +kernel)) (by decide +kernel)
theorem gw_645 : Cond.code yX6_last cX6_last 5 (some .int) ∈ goodTs := goodTs_mem (List.mem_of_getElem? (i := 645) (by decide +kernel)) (by decide +kernel)
theorem gw_646 : Cond.methodLink RX6 137 yX6_noneOrDead ∈ goodTs := goodTs_mem (List.mem_of_getElem? (i := 646) (by decide +kernel)) (by decide +kernel)
theorem gw_648 : Cond.instanceMethod yX6_noneOrDead ∈ goodTs := goodTs_mem (List.mem_of_getElem? (i := 648) (by decide +kernel)) (by decide +kernel)
theorem gw_649 : Cond.code yX6_noneOrDead cX6_noneOrDead 3 (some .boolean) ∈ goodTs := goodTs_mem (List.mem_of_getElem? (i := 649) (by decide +kernel)) (by decide +kernel)
theorem gw_650 : Cond.methodLink RX6 140 yX6_modified ∈ goodTs := goodTs_mem (List.mem_of_getElem? (i := 650) (by decide +kernel)) (by decide +kernel)
theorem gw_652 : Cond.instanceMethod yX6_modified ∈ goodTs := goodTs_mem (List.mem_of_getElem? (i := 652) (by decide +kernel)) (by decide +kernel)
theorem gw_653 : Cond.code yX6_modified cX6_modified 3 (some .boolean) ∈ goodTs := goodTs_mem (List.mem_of_getElem? (i := 653) (by decide +kernel)) (by decide +kernel)
theorem gw_654 : Cond.methodLink RX6 146 yX6_revise ∈ goodTs := goodTs_mem (List.mem_of_getElem? (i := 654) (by decide +kernel)) (by decide +kernel)
theorem gw_656 : Cond.instanceMethod yX6_revise ∈ goodTs := goodTs_mem (List.mem_of_getElem? (i := 656) (by decide +kernel)) (by decide +kernel)
theorem gw_657 : Cond.code yX6_revise cX6_revise 8 (some .int) ∈ goodTs := goodTs_mem (List.mem_of_getElem? (i := 657) (by decide +kernel)) (by decide +kernel)
theorem gw_658 : Cond.methodLink RX6 150 yX6_freeMagic ∈ goodTs := goodTs_mem (List.mem_of_getElem? (i := 658) (by decide +kernel)) (by decide +kernel)
theorem gw_660 : Cond.instanceMethod yX6_freeMagic ∈ goodTs := goodTs_mem (List.mem_of_getElem? (i := 660) (by decide +kernel)) (by decide +kernel)
theorem gw_661 : Cond.code yX6_freeMagic cX6_freeMagic 6 (some .int) ∈ goodTs := goodTs_mem (List.mem_of_getElem? (i := 661) (by decide +kernel)) (by decide +kernel)
theorem gw_662 : Cond.methodLink RX6 153 yX6_branchAt ∈ goodTs := goodTs_mem (List.mem_of_getElem? (i := 662) (by decide +kernel)) (by decide +kernel)
theorem gw_664 : Cond.instanceMethod yX6_branchAt ∈ goodTs := goodTs_mem (List.mem_of_getElem? (i := 664) (by decide +kernel)) (by decide +kernel)
theorem gw_665 : Cond.code yX6_branchAt cX6_branchAt 5 (some .int) ∈ goodTs := goodTs_mem (List.mem_of_getElem? (i := 665) (by decide +kernel)) (by decide +kernel)
theorem gw_670 : Cond.methodLink RX6 169 yX6_updated ∈ goodTs := goodTs_mem (List.mem_of_getElem? (i := 670) (by decide +kernel)) (by decide +kernel)
theorem gw_672 : Cond.instanceMethod yX6_updated ∈ goodTs := goodTs_mem (List.mem_of_getElem? (i := 672) (by decide +kernel)) (by decide +kernel)
theorem gw_673 : Cond.code yX6_updated cX6_updated 6 (some .int) ∈ goodTs := goodTs_mem (List.mem_of_getElem? (i := 673) (by decide +kernel)) (by decide +kernel)
theorem gw_674 : Cond.methodLink RX6 157 yX6_take ∈ goodTs := goodTs_mem (List.mem_of_getElem? (i := 674) (by decide +kernel)) (by decide +kernel)
theorem gw_676 : Cond.instanceMethod yX6_take ∈ goodTs := goodTs_mem (List.mem_of_getElem? (i := 676) (by decide +kernel)) (by decide +kernel)
theorem gw_677 : Cond.code yX6_take cX6_take 4 (none) ∈ goodTs := goodTs_mem (List.mem_of_getElem? (i := 677) (by decide +kernel)) (by decide +kernel)
theorem gw_678 : Cond.methodLink RX6 161 yX6_merge ∈ goodTs := goodTs_mem (List.mem_of_getElem? (i := 678) (by decide +kernel)) (by decide +kernel)
theorem gw_680 : Cond.instanceMethod yX6_merge ∈ goodTs := goodTs_mem (List.mem_of_getElem? (i := 680) (by decide +kernel)) (by decide +kernel)
theorem gw_681 : Cond.code yX6_merge cX6_merge 14 (none) ∈ goodTs := goodTs_mem (List.mem_of_getElem? (i := 681) (by decide +kernel)) (by decide +kernel)
theorem gw_682 : Cond.methodLink RX6 100 yX6_pairUp ∈ goodTs := goodTs_mem (List.mem_of_getElem? (i := 682) (by decide +kernel)) (by decide +kernel)
theorem gw_684 : Cond.instanceMethod yX6_pairUp ∈ goodTs := goodTs_mem (List.mem_of_getElem? (i := 684) (by decide +kernel)) (by decide +kernel)
theorem gw_685 : Cond.code yX6_pairUp cX6_pairUp 8 (none) ∈ goodTs := goodTs_mem (List.mem_of_getElem? (i := 685) (by decide +kernel)) (by decide +kernel)
theorem gw_686 : Cond.methodLink RX6 88 yX6_fill ∈ goodTs := goodTs_mem (List.mem_of_getElem? (i := 686) (by decide +kernel)) (by decide +kernel)
theorem gw_688 : Cond.instanceMethod yX6_fill ∈ goodTs := goodTs_mem (List.mem_of_getElem? (i := 688) (by decide +kernel)) (by decide +kernel)
theorem gw_689 : Cond.code yX6_fill cX6_fill 10 (none) ∈ goodTs := goodTs_mem (List.mem_of_getElem? (i := 689) (by decide +kernel)) (by decide +kernel)
theorem gw_690 : Cond.methodLink RX6 108 yX6_alike ∈ goodTs := goodTs_mem (List.mem_of_getElem? (i := 690) (by decide +kernel)) (by decide +kernel)
theorem gw_691 : Cond.static yX6_alike ∈ goodTs := goodTs_mem (List.mem_of_getElem? (i := 691) (by decide +kernel)) (by decide +kernel)
theorem gw_692 : Cond.code yX6_alike cX6_alike 10 (some .boolean) ∈ goodTs := goodTs_mem (List.mem_of_getElem? (i := 692) (by decide +kernel)) (by decide +kernel)
theorem gw_693 : Cond.methodLink RX6 112 yX6_putAll ∈ goodTs := goodTs_mem (List.mem_of_getElem? (i := 693) (by decide +kernel)) (by decide +kernel)
theorem gw_695 : Cond.instanceMethod yX6_putAll ∈ goodTs := goodTs_mem (List.mem_of_getElem? (i := 695) (by decide +kernel)) (by decide +kernel)
theorem gw_696 : Cond.code yX6_putAll cX6_putAll 6 (none) ∈ goodTs := goodTs_mem (List.mem_of_getElem? (i := 696) (by decide +kernel)) (by decide +kernel)
theorem gw_697 : Cond.methodLink RX6 96 yX6_put ∈ goodTs := goodTs_mem (List.mem_of_getElem? (i := 697) (by decide +kernel)) (by decide +kernel)
theorem gw_699 : Cond.instanceMethod yX6_put ∈ goodTs := goodTs_mem (List.mem_of_getElem? (i := 699) (by decide +kernel)) (by decide +kernel)
theorem gw_700 : Cond.code yX6_put cX6_put 2 (none) ∈ goodTs := goodTs_mem (List.mem_of_getElem? (i := 700) (by decide +kernel)) (by decide +kernel)
theorem gw_701 : Cond.methodLink RX6 165 yX6_mergedText ∈ goodTs := goodTs_mem (List.mem_of_getElem? (i := 701) (by decide +kernel)) (by decide +kernel)
theorem gw_703 : Cond.instanceMethod yX6_mergedText ∈ goodTs := goodTs_mem (List.mem_of_getElem? (i := 703) (by decide +kernel)) (by decide +kernel)
theorem gw_704 : Cond.code yX6_mergedText cX6_mergedText 4 (some .long) ∈ goodTs := goodTs_mem (List.mem_of_getElem? (i := 704) (by decide +kernel)) (by decide +kernel)
theorem gw_713 : Cond.methodLink RX6 172 yX6_firstOfTrunk ∈ goodTs := goodTs_mem (List.mem_of_getElem? (i := 713) (by decide +kernel)) (by decide +kernel)
theorem gw_715 : Cond.instanceMethod yX6_firstOfTrunk ∈ goodTs := goodTs_mem (List.mem_of_getElem? (i := 715) (by decide +kernel)) (by decide +kernel)
theorem gw_716 : Cond.code yX6_firstOfTrunk cX6_firstOfTrunk 3 (some .int) ∈ goodTs := goodTs_mem (List.mem_of_getElem? (i := 716) (by decide +kernel)) (by decide +kernel)
theorem gw_729 : Cond.constantLong RX6 176 (fL (-1)) ∈ goodTs := goodTs_mem (List.mem_of_getElem? (i := 729) (by decide +kernel)) (by decide +kernel)
theorem gw_746 : Cond.methodLink RX6 178 yX6_noRevision ∈ goodTs := goodTs_mem (List.mem_of_getElem? (i := 746) (by decide +kernel)) (by decide +kernel)
theorem gw_748 : Cond.instanceMethod yX6_noRevision ∈ goodTs := goodTs_mem (List.mem_of_getElem? (i := 748) (by decide +kernel)) (by decide +kernel)
theorem gw_749 : Cond.code yX6_noRevision cX6_noRevision 3 (some .boolean) ∈ goodTs := goodTs_mem (List.mem_of_getElem? (i := 749) (by decide +kernel)) (by decide +kernel)
theorem gw_750 : Cond.methodLink RX6 181 yX6_parts ∈ goodTs := goodTs_mem (List.mem_of_getElem? (i := 750) (by decide +kernel)) (by decide +kernel)
theorem gw_752 : Cond.instanceMethod yX6_parts ∈ goodTs := goodTs_mem (List.mem_of_getElem? (i := 752) (by decide +kernel)) (by decide +kernel)
theorem gw_753 : Cond.code yX6_parts cX6_parts 5 (some .int) ∈ goodTs := goodTs_mem (List.mem_of_getElem? (i := 753) (by decide +kernel)) (by decide +kernel)
theorem gw_766 : Cond.methodLink RX6 184 yX6_revisionAt ∈ goodTs := goodTs_mem (List.mem_of_getElem? (i := 766) (by decide +kernel)) (by decide +kernel)
theorem gw_768 : Cond.instanceMethod yX6_revisionAt ∈ goodTs := goodTs_mem (List.mem_of_getElem? (i := 768) (by decide +kernel)) (by decide +kernel)
theorem gw_769 : Cond.code yX6_revisionAt cX6_revisionAt 5 (some .int) ∈ goodTs := goodTs_mem (List.mem_of_getElem? (i := 769) (by decide +kernel)) (by decide +kernel)
theorem gw_770 : Cond.methodLink RX6 187 yX6_difference ∈ goodTs := goodTs_mem (List.mem_of_getElem? (i := 770) (by decide +kernel)) (by decide +kernel)
theorem gw_772 : Cond.instanceMethod yX6_difference ∈ goodTs := goodTs_mem (List.mem_of_getElem? (i := 772) (by decide +kernel)) (by decide +kernel)
theorem gw_773 : Cond.code yX6_difference cX6_difference 5 (some .int) ∈ goodTs := goodTs_mem (List.mem_of_getElem? (i := 773) (by decide +kernel)) (by decide +kernel)
/-! the table of places -/
def TB : List fEn := [(4, 4, [(2, 1), (2, 46), (2, 59), (2, 60), (2, 78)]),
  (3, 3, [(2, 2), (2, 13), (2, 24), (2, 35)]),
  (4, 2, [(2, 3), (2, 4), (2, 5), (2, 6), (2, 7), (0, 0), (2, 8), (2, 9), (2, 10), (2, 11), (0, 0), (0, 0), (0, 0), (2, 12)]),
  (2, 24, []),
  (1, 24, []),
  (0, 24, []),
  (0, 24, []),
  (0, 24, []),
  (0, 6, []),
  (0, 6, []),
  (0, 6, []),
  (0, 6, []),
  (0, 5, []),
  (4, 2, [(2, 14), (2, 15), (2, 16), (2, 17), (2, 18), (0, 0), (2, 19), (2, 20), (2, 21), (2, 22), (0, 0), (0, 0), (0, 0), (2, 23)]),
  (2, 24, []),
  (1, 24, []),
  (0, 24, []),
  (0, 24, []),
  (0, 24, []),
  (0, 6, []),
  (0, 6, []),
  (0, 6, []),
  (0, 6, []),
  (0, 5, []),
  (4, 2, [(2, 25), (2, 26), (2, 27), (2, 28), (2, 29), (0, 0), (2, 30), (2, 31), (2, 32), (2, 33), (0, 0), (0, 0), (0, 0), (2, 34)]),
  (2, 24, []),
  (1, 24, []),
  (0, 24, []),
  (0, 24, []),
  (0, 24, []),
  (0, 6, []),
  (0, 6, []),
  (0, 6, []),
  (0, 6, []),
  (0, 5, []),
  (4, 2, [(2, 36), (2, 37), (2, 38), (2, 39), (2, 40), (0, 0), (2, 41), (2, 42), (2, 43), (2, 44), (0, 0), (0, 0), (0, 0), (2, 45)]),
  (2, 24, []),
  (1, 24, []),
  (0, 24, []),
  (0, 24, []),
  (0, 24, []),
  (0, 6, []),
  (0, 6, []),
  (0, 6, []),
  (0, 6, []),
  (0, 5, []),
  (3, 4, [(2, 47), (2, 48), (2, 49), (2, 50), (2, 51), (2, 52), (2, 53), (2, 54), (2, 55), (2, 56), (2, 57), (2, 58)]),
  (4, 0, [(0, 0), (0, 0), (1, 0), (0, 0)]),
  (4, 0, [(0, 0), (0, 0), (1, 0), (0, 0)]),
  (4, 0, [(0, 0), (0, 0), (1, 0), (0, 0)]),
  (4, 0, [(0, 0), (0, 0), (1, 0), (0, 0)]),
  (4, 0, [(0, 0), (0, 0), (1, 0), (0, 0)]),
  (4, 0, [(0, 0), (0, 0), (1, 0), (0, 0)]),
  (4, 0, [(0, 0), (0, 0), (1, 0), (0, 0)]),
  (4, 0, [(0, 0), (0, 0), (1, 0), (0, 0)]),
  (4, 0, [(0, 0), (0, 0), (1, 0), (0, 0)]),
  (4, 0, [(0, 0), (0, 0), (1, 0), (0, 0)]),
  (4, 0, [(0, 0), (0, 0), (1, 0), (0, 0)]),
  (4, 0, [(0, 0), (0, 0), (1, 0), (0, 0)]),
  (0, 5, []),
  (4, 1, [(2, 61), (2, 62), (0, 0), (0, 0), (2, 63), (2, 77), (0, 0)]),
  (0, 12, []),
  (0, 12, []),
  (3, 5, [(2, 64), (2, 65), (2, 66), (2, 67), (2, 68), (2, 69), (2, 70), (2, 71), (2, 72), (2, 73), (2, 74), (2, 75), (2, 76)]),
  (0, 13, []),
  (0, 13, []),
  (0, 13, []),
  (0, 13, []),
  (0, 13, []),
  (0, 13, []),
  (0, 13, []),
  (0, 13, []),
  (0, 13, []),
  (0, 13, []),
  (0, 13, []),
  (0, 13, []),
  (0, 13, []),
  (0, 12, []),
  (4, 3, [(2, 79), (2, 97), (1, 0), (0, 0), (0, 0)]),
  (4, 1, [(2, 80), (2, 81), (0, 0), (0, 0), (2, 82), (2, 96), (0, 0)]),
  (0, 12, []),
  (0, 12, []),
  (3, 5, [(2, 83), (2, 84), (2, 85), (2, 86), (2, 87), (2, 88), (2, 89), (2, 90), (2, 91), (2, 92), (2, 93), (2, 94), (2, 95)]),
  (0, 13, []),
  (0, 13, []),
  (0, 13, []),
  (0, 13, []),
  (0, 13, []),
  (0, 13, []),
  (0, 13, []),
  (0, 13, []),
  (0, 13, []),
  (0, 13, []),
  (0, 13, []),
  (0, 13, []),
  (0, 13, []),
  (0, 12, []),
  (4, 1, [(2, 98), (2, 99), (0, 0), (0, 0), (2, 100), (2, 114), (0, 0)]),
  (0, 12, []),
  (0, 12, []),
  (3, 5, [(2, 101), (2, 102), (2, 103), (2, 104), (2, 105), (2, 106), (2, 107), (2, 108), (2, 109), (2, 110), (2, 111), (2, 112), (2, 113)]),
  (0, 13, []),
  (0, 13, []),
  (0, 13, []),
  (0, 13, []),
  (0, 13, []),
  (0, 13, []),
  (0, 13, []),
  (0, 13, []),
  (0, 13, []),
  (0, 13, []),
  (0, 13, []),
  (0, 13, []),
  (0, 13, []),
  (0, 12, []),
  (4, 5, [(2, 116), (2, 117), (2, 118), (2, 119), (2, 120), (2, 121), (2, 122), (2, 123), (2, 124), (2, 125), (2, 126), (2, 127), (2, 128), (2, 129), (2, 130), (2, 131), (2, 132), (2, 133), (2, 134), (2, 135), (0, 0), (0, 0)]),
  (0, 4, []),
  (2, 96, []),
  (1, 96, []),
  (0, 96, []),
  (0, 96, []),
  (0, 4, []),
  (0, 24, []),
  (0, 24, []),
  (0, 4, []),
  (0, 4, []),
  (0, 5, []),
  (0, 20, []),
  (0, 12, []),
  (1, 12, []),
  (2, 12, []),
  (0, 12, []),
  (0, 169, []),
  (0, 13, []),
  (0, 13, []),
  (0, 64, [])]
set_option maxRecDepth 100000 in
theorem TB_len : TB.length = 136 := rfl
def fIsH (P : Nat) : Prop := P = 2 ∨ P = 13 ∨ P = 24 ∨ P = 35
def fIsC (P : Nat) : Prop := 47 ≤ P ∧ P < 59
def fIsD (P : Nat) : Prop := P = 60 ∨ P = 79 ∨ P = 97
theorem fIsD_60 : fIsD 60 := by unfold fIsD; omega
theorem fIsD_79 : fIsD 79 := by unfold fIsD; omega
theorem fIsD_97 : fIsD 97 := by unfold fIsD; omega
theorem fIsH_of {P : Nat} (h : ∃ j, j < 4 ∧ P = 2 + 11 * j) : fIsH P := by
  obtain ⟨j, h1, rfl⟩ := h
  unfold fIsH
  omega
theorem fIsC_of {P : Nat} (h : ∃ j, j < 12 ∧ P = 47 + 1 * j) : fIsC P := by
  obtain ⟨j, h1, rfl⟩ := h
  unfold fIsC
  omega
theorem tb_RS : TB[0]? = some (4, 4, [(2, 1), (2, 46), (2, 59), (2, 60), (2, 78)]) := rfl
theorem tb_HA : TB[1]? = some (3, 3, [(2, 2), (2, 13), (2, 24), (2, 35)]) := rfl
theorem tb_HA_q : ∀ j, j < 4 → ([(2, 2), (2, 13), (2, 24), (2, 35)] : List (Nat × Nat))[j]? = some (2, 2 + 11 * j) := by decide
theorem tb_CA : TB[46]? = some (3, 4, [(2, 47), (2, 48), (2, 49), (2, 50), (2, 51), (2, 52), (2, 53), (2, 54), (2, 55), (2, 56), (2, 57), (2, 58)]) := rfl
theorem tb_CA_q : ∀ j, j < 12 → ([(2, 47), (2, 48), (2, 49), (2, 50), (2, 51), (2, 52), (2, 53), (2, 54), (2, 55), (2, 56), (2, 57), (2, 58)] : List (Nat × Nat))[j]? = some (2, 47 + 1 * j) := by decide
theorem tb_TS : TB[59]? = some (0, 5, []) := rfl
theorem tb_MG : TB[78]? = some (4, 3, [(2, 79), (2, 97), (1, 0), (0, 0), (0, 0)]) := rfl
theorem tb_MD : TB[115]? = some (4, 5, [(2, 116), (2, 117), (2, 118), (2, 119), (2, 120), (2, 121), (2, 122), (2, 123), (2, 124), (2, 125), (2, 126), (2, 127), (2, 128), (2, 129), (2, 130), (2, 131), (2, 132), (2, 133), (2, 134), (2, 135), (0, 0), (0, 0)]) := rfl
theorem tb_MD_1 : TB[116]? = some (0, 4, []) := rfl
theorem tb_MD_2 : TB[117]? = some (2, 96, []) := rfl
theorem tb_MD_3 : TB[118]? = some (1, 96, []) := rfl
theorem tb_MD_4 : TB[119]? = some (0, 96, []) := rfl
theorem tb_MD_5 : TB[120]? = some (0, 96, []) := rfl
theorem tb_MD_6 : TB[121]? = some (0, 4, []) := rfl
theorem tb_MD_7 : TB[122]? = some (0, 24, []) := rfl
theorem tb_MD_8 : TB[123]? = some (0, 24, []) := rfl
theorem tb_MD_9 : TB[124]? = some (0, 4, []) := rfl
theorem tb_MD_10 : TB[125]? = some (0, 4, []) := rfl
theorem tb_MD_11 : TB[126]? = some (0, 5, []) := rfl
theorem tb_MD_12 : TB[127]? = some (0, 20, []) := rfl
theorem tb_MD_13 : TB[128]? = some (0, 12, []) := rfl
theorem tb_MD_14 : TB[129]? = some (1, 12, []) := rfl
theorem tb_MD_15 : TB[130]? = some (2, 12, []) := rfl
theorem tb_MD_16 : TB[131]? = some (0, 12, []) := rfl
theorem tb_MD_17 : TB[132]? = some (0, 169, []) := rfl
theorem tb_MD_18 : TB[133]? = some (0, 13, []) := rfl
theorem tb_MD_19 : TB[134]? = some (0, 13, []) := rfl
theorem tb_MD_20 : TB[135]? = some (0, 64, []) := rfl
theorem tb_H {P : Nat} (h : fIsH P) : TB[P]? = some (4, 2, [(2, P + 1), (2, P + 2), (2, P + 3), (2, P + 4), (2, P + 5), (0, 0), (2, P + 6), (2, P + 7), (2, P + 8), (2, P + 9), (0, 0), (0, 0), (0, 0), (2, P + 10)]) := by rcases h with rfl | rfl | rfl | rfl <;> rfl
theorem tb_H_1 {P : Nat} (h : fIsH P) : TB[P + 1]? = some (2, 24, []) := by rcases h with rfl | rfl | rfl | rfl <;> rfl
theorem tb_H_2 {P : Nat} (h : fIsH P) : TB[P + 2]? = some (1, 24, []) := by rcases h with rfl | rfl | rfl | rfl <;> rfl
theorem tb_H_3 {P : Nat} (h : fIsH P) : TB[P + 3]? = some (0, 24, []) := by rcases h with rfl | rfl | rfl | rfl <;> rfl
theorem tb_H_4 {P : Nat} (h : fIsH P) : TB[P + 4]? = some (0, 24, []) := by rcases h with rfl | rfl | rfl | rfl <;> rfl
theorem tb_H_5 {P : Nat} (h : fIsH P) : TB[P + 5]? = some (0, 24, []) := by rcases h with rfl | rfl | rfl | rfl <;> rfl
theorem tb_H_6 {P : Nat} (h : fIsH P) : TB[P + 6]? = some (0, 6, []) := by rcases h with rfl | rfl | rfl | rfl <;> rfl
theorem tb_H_7 {P : Nat} (h : fIsH P) : TB[P + 7]? = some (0, 6, []) := by rcases h with rfl | rfl | rfl | rfl <;> rfl
theorem tb_H_8 {P : Nat} (h : fIsH P) : TB[P + 8]? = some (0, 6, []) := by rcases h with rfl | rfl | rfl | rfl <;> rfl
theorem tb_H_9 {P : Nat} (h : fIsH P) : TB[P + 9]? = some (0, 6, []) := by rcases h with rfl | rfl | rfl | rfl <;> rfl
theorem tb_H_10 {P : Nat} (h : fIsH P) : TB[P + 10]? = some (0, 5, []) := by rcases h with rfl | rfl | rfl | rfl <;> rfl
theorem tb_C {P : Nat} (h : fIsC P) : TB[P]? = some (4, 0, [(0, 0), (0, 0), (1, 0), (0, 0)]) := by
  unfold fIsC at h
  rcases (show P = 47 ∨ P = 48 ∨ P = 49 ∨ P = 50 ∨ P = 51 ∨ P = 52 ∨ P = 53 ∨ P = 54 ∨ P = 55 ∨ P = 56 ∨ P = 57 ∨ P = 58 by omega) with rfl | rfl | rfl | rfl | rfl | rfl | rfl | rfl | rfl | rfl | rfl | rfl <;> rfl
theorem tb_D {P : Nat} (h : fIsD P) : TB[P]? = some (4, 1, [(2, P + 1), (2, P + 2), (0, 0), (0, 0), (2, P + 3), (2, P + 17), (0, 0)]) := by rcases h with rfl | rfl | rfl <;> rfl
theorem tb_D_1 {P : Nat} (h : fIsD P) : TB[P + 1]? = some (0, 12, []) := by rcases h with rfl | rfl | rfl <;> rfl
theorem tb_D_2 {P : Nat} (h : fIsD P) : TB[P + 2]? = some (0, 12, []) := by rcases h with rfl | rfl | rfl <;> rfl
theorem tb_D_17 {P : Nat} (h : fIsD P) : TB[P + 17]? = some (0, 12, []) := by rcases h with rfl | rfl | rfl <;> rfl
theorem tb_Dc {P : Nat} (h : fIsD P) : TB[P + 3]? = some (3, 5, (List.range 13).map (fun k => (2, P + 4 + 1 * k))) := by rcases h with rfl | rfl | rfl <;> rfl
theorem tb_Dc_q (P : Nat) : ∀ j, j < 13 → ((List.range 13).map (fun k => ((2, P + 4 + 1 * k) : Nat × Nat)))[j]? = some (2, P + 4 + 1 * j) := by
  intro j hj
  simp [hj]
theorem tb_Dr {P Q : Nat} (h : fIsD P) (hq : ∃ j, j < 13 ∧ Q = P + 4 + 1 * j) : TB[Q]? = some (0, 13, []) := by
  obtain ⟨j, hj, rfl⟩ := hq
  rcases h with rfl | rfl | rfl <;> rcases (show j = 0 ∨ j = 1 ∨ j = 2 ∨ j = 3 ∨ j = 4 ∨ j = 5 ∨ j = 6 ∨ j = 7 ∨ j = 8 ∨ j = 9 ∨ j = 10 ∨ j = 11 ∨ j = 12 by omega) with rfl | rfl | rfl | rfl | rfl | rfl | rfl | rfl | rfl | rfl | rfl | rfl | rfl <;> rfl
abbrev GM (l : Launch) (p : Program) (e : Env) (s : State) (m : MethodId) (args : Array Value) (below : List Frame) (meth : Method) (c : Code) (D : va_G) (aC : Nat → ClassId) (ad : Nat → Nat) (nL fr lo rk : Nat) (pc : Nat) (lv : List (Nat × Value)) (st : List Value) (M : fMem) (d : fOp) : Prop := GO p l e (fRm fr lo) s m args below meth c vwCl D aC TB ad (fFr ad TB) nL 0 0 (fun r => MQ below (fQ vwCl D aC ad TB rk r) args s 0 0 (fFr ad TB)) pc lv st M d
