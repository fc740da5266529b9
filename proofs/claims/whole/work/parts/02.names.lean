/-! names of the classes, their fields; the links of the constant pools, by number -/
def zR0 : String := "DiscLines$Book"
def zR1 : String := "DiscLines$Eye"
def zR2 : String := "DiscLines$Guesses"
def zR3 : String := "DiscLines$Law"
def zR4 : String := "DiscLines$Picture"
def zR5 : String := "DiscLines$State"
def zR6 : String := "DiscLines$World"
def zR7 : String := "DiscLines"
def zR8 : String := "DiscLinesModel"
def zR9 : String := "DiscLines$Step"
def zR10 : String := "DiscLinesLaw"
def zR11 : String := "java/lang/Integer"
def zR12 : String := "java/lang/Math"
def zR13 : String := "java/util/Arrays"
def zR14 : String := "java/lang/System"
def zT0 : u_T := fun k => match k with
  | 0 => ("DiscLines$Book", "observerLaws", "[I", true)
  | 1 => ("DiscLines$Book", "observerWeights", "[I", true)
  | 2 => ("DiscLines$Book", "observerCount", "I", false)
  | 3 => ("DiscLines$Book", "sheetObservers", "[I", true)
  | 4 => ("DiscLines$Book", "sheetNights", "[I", true)
  | 5 => ("DiscLines$Book", "sheetLines", "[I", true)
  | 6 => ("DiscLines$Book", "sheetCount", "I", false)
  | 7 => ("DiscLines$Book", "shownSheets", "[I", true)
  | 8 => ("DiscLines$Book", "shownObservers", "[I", true)
  | 9 => ("DiscLines$Book", "shownNights", "[I", true)
  | _ => ("DiscLines$Book", "showCount", "I", false)
def zy0 : Nat → FieldType := fun k => match k with
  | 0 => .array .int
  | 1 => .array .int
  | 2 => .int
  | 3 => .array .int
  | 4 => .array .int
  | 5 => .array .int
  | 6 => .int
  | 7 => .array .int
  | 8 => .array .int
  | 9 => .array .int
  | _ => .int
theorem zn0 : ∀ a, a < 11 → ∀ b, b < 11 → a ≠ b → (zT0 a).2.1 ≠ (zT0 b).2.1 := by decide +kernel
theorem zq0 : ∀ k, k < 11 → parseFieldDescriptor (zT0 k).2.2.1 = some (zy0 k) := by decide +kernel
def zT1 : u_T := fun k => match k with
  | 0 => ("DiscLines$Eye", "picture", "LDiscLines$Picture;", true)
  | 1 => ("DiscLines$Eye", "units", "[J", true)
  | 2 => ("DiscLines$Eye", "stack", "[J", true)
  | 3 => ("DiscLines$Eye", "linesOfUnshown", "I", false)
  | _ => ("DiscLines$Eye", "linesOfShown", "I", false)
def zy1 : Nat → FieldType := fun k => match k with
  | 0 => .object "DiscLines$Picture"
  | 1 => .array .long
  | 2 => .array .long
  | 3 => .int
  | _ => .int
theorem zn1 : ∀ a, a < 5 → ∀ b, b < 5 → a ≠ b → (zT1 a).2.1 ≠ (zT1 b).2.1 := by decide +kernel
theorem zq1 : ∀ k, k < 5 → parseFieldDescriptor (zT1 k).2.2.1 = some (zy1 k) := by decide +kernel
def zT2 : u_T := fun k => match k with
  | 0 => ("DiscLines$Guesses", "worlds", "[I", true)
  | 1 => ("DiscLines$Guesses", "laws", "[I", true)
  | 2 => ("DiscLines$Guesses", "glasses", "[I", true)
  | _ => ("DiscLines$Guesses", "size", "I", false)
def zy2 : Nat → FieldType := fun k => match k with
  | 0 => .array .int
  | 1 => .array .int
  | 2 => .array .int
  | _ => .int
theorem zn2 : ∀ a, a < 4 → ∀ b, b < 4 → a ≠ b → (zT2 a).2.1 ≠ (zT2 b).2.1 := by decide +kernel
theorem zq2 : ∀ k, k < 4 → parseFieldDescriptor (zT2 k).2.2.1 = some (zy2 k) := by decide +kernel
def zT3 : u_T := fun k => match k with
  | 0 => ("DiscLines$Law", "signs", "[I", true)
  | 1 => ("DiscLines$Law", "length", "I", false)
  | 2 => ("DiscLines$Law", "fault", "I", false)
  | 3 => ("DiscLines$Law", "steps", "[I", true)
  | 4 => ("DiscLines$Law", "stepCount", "I", false)
  | 5 => ("DiscLines$Law", "asksShown", "Z", false)
  | _ => ("DiscLines$Law", "place", "I", false)
def zy3 : Nat → FieldType := fun k => match k with
  | 0 => .array .int
  | 1 => .int
  | 2 => .int
  | 3 => .array .int
  | 4 => .int
  | 5 => .boolean
  | _ => .int
theorem zn3 : ∀ a, a < 7 → ∀ b, b < 7 → a ≠ b → (zT3 a).2.1 ≠ (zT3 b).2.1 := by decide +kernel
theorem zq3 : ∀ k, k < 7 → parseFieldDescriptor (zT3 k).2.2.1 = some (zy3 k) := by decide +kernel
def zT4 : u_T := fun k => match k with
  | 0 => ("DiscLines$Picture", "shades", "[I", true)
  | 1 => ("DiscLines$Picture", "sums", "[I", true)
  | 2 => ("DiscLines$Picture", "values", "[I", true)
  | _ => ("DiscLines$Picture", "glass", "I", false)
def zy4 : Nat → FieldType := fun k => match k with
  | 0 => .array .int
  | 1 => .array .int
  | 2 => .array .int
  | _ => .int
theorem zn4 : ∀ a, a < 4 → ∀ b, b < 4 → a ≠ b → (zT4 a).2.1 ≠ (zT4 b).2.1 := by decide +kernel
theorem zq4 : ∀ k, k < 4 → parseFieldDescriptor (zT4 k).2.2.1 = some (zy4 k) := by decide +kernel
def zT5 : u_T := fun k => match k with
  | 0 => ("DiscLines$State", "worlds", "[LDiscLines$World;", true)
  | 1 => ("DiscLines$State", "marks", "[I", true)
  | 2 => ("DiscLines$State", "laws", "[LDiscLines$Law;", true)
  | 3 => ("DiscLines$State", "book", "LDiscLines$Book;", true)
  | 4 => ("DiscLines$State", "guesses", "LDiscLines$Guesses;", true)
  | 5 => ("DiscLines$State", "own", "I", false)
  | _ => ("DiscLines$State", "error", "I", false)
def zy5 : Nat → FieldType := fun k => match k with
  | 0 => .array (.object "DiscLines$World")
  | 1 => .array .int
  | 2 => .array (.object "DiscLines$Law")
  | 3 => .object "DiscLines$Book"
  | 4 => .object "DiscLines$Guesses"
  | 5 => .int
  | _ => .int
theorem zn5 : ∀ a, a < 7 → ∀ b, b < 7 → a ≠ b → (zT5 a).2.1 ≠ (zT5 b).2.1 := by decide +kernel
theorem zq5 : ∀ k, k < 7 → parseFieldDescriptor (zT5 k).2.2.1 = some (zy5 k) := by decide +kernel
def zT6 : u_T := fun k => match k with
  | 0 => ("DiscLines$World", "shades", "[I", true)
  | _ => ("DiscLines$World", "greens", "[I", true)
def zy6 : Nat → FieldType := fun k => match k with
  | 0 => .array .int
  | _ => .array .int
theorem zn6 : ∀ a, a < 2 → ∀ b, b < 2 → a ≠ b → (zT6 a).2.1 ≠ (zT6 b).2.1 := by decide +kernel
theorem zq6 : ∀ k, k < 2 → parseFieldDescriptor (zT6 k).2.2.1 = some (zy6 k) := by decide +kernel
def zT7 : u_T := fun k => match k with
  | 0 => ("DiscLines", "now", "LDiscLines$State;", true)
  | 1 => ("DiscLines", "images", "[LDiscLines$State;", true)
  | 2 => ("DiscLines", "kept", "[Z", true)
  | 3 => ("DiscLines", "eye", "LDiscLines$Eye;", true)
  | 4 => ("DiscLines", "drawings", "[I", true)
  | 5 => ("DiscLines", "above", "J", false)
  | _ => ("DiscLines", "below", "J", false)
def zy7 : Nat → FieldType := fun k => match k with
  | 0 => .object "DiscLines$State"
  | 1 => .array (.object "DiscLines$State")
  | 2 => .array .boolean
  | 3 => .object "DiscLines$Eye"
  | 4 => .array .int
  | 5 => .long
  | _ => .long
theorem zn7 : ∀ a, a < 7 → ∀ b, b < 7 → a ≠ b → (zT7 a).2.1 ≠ (zT7 b).2.1 := by decide +kernel
theorem zq7 : ∀ k, k < 7 → parseFieldDescriptor (zT7 k).2.2.1 = some (zy7 k) := by decide +kernel
def zT8 : u_T := fun k => match k with
  | 0 => ("DiscLinesModel", "row", "[I", true)
  | 1 => ("DiscLinesModel", "kept", "[I", true)
  | 2 => ("DiscLinesModel", "isKept", "[Z", true)
  | 3 => ("DiscLinesModel", "up", "J", false)
  | 4 => ("DiscLinesModel", "low", "J", false)
  | 5 => ("DiscLinesModel", "picture", "[I", true)
  | 6 => ("DiscLinesModel", "codes", "[I", true)
  | 7 => ("DiscLinesModel", "numbers", "[J", true)
  | 8 => ("DiscLinesModel", "codeMany", "I", false)
  | 9 => ("DiscLinesModel", "waits", "[I", true)
  | 10 => ("DiscLinesModel", "waiting", "I", false)
  | 11 => ("DiscLinesModel", "depth", "I", false)
  | 12 => ("DiscLinesModel", "isCompared", "[Z", true)
  | 13 => ("DiscLinesModel", "isBehind", "Z", false)
  | 14 => ("DiscLinesModel", "digits", "I", false)
  | 15 => ("DiscLinesModel", "numberAt", "I", false)
  | 16 => ("DiscLinesModel", "letters", "[J", true)
  | 17 => ("DiscLinesModel", "stack", "[J", true)
  | 18 => ("DiscLinesModel", "leastCost", "I", false)
  | 19 => ("DiscLinesModel", "drawings", "[I", true)
  | _ => ("DiscLinesModel", "hash", "J", false)
def zy8 : Nat → FieldType := fun k => match k with
  | 0 => .array .int
  | 1 => .array .int
  | 2 => .array .boolean
  | 3 => .long
  | 4 => .long
  | 5 => .array .int
  | 6 => .array .int
  | 7 => .array .long
  | 8 => .int
  | 9 => .array .int
  | 10 => .int
  | 11 => .int
  | 12 => .array .boolean
  | 13 => .boolean
  | 14 => .int
  | 15 => .int
  | 16 => .array .long
  | 17 => .array .long
  | 18 => .int
  | 19 => .array .int
  | _ => .long
theorem zn8 : ∀ a, a < 21 → ∀ b, b < 21 → a ≠ b → (zT8 a).2.1 ≠ (zT8 b).2.1 := by decide +kernel
theorem zq8 : ∀ k, k < 21 → parseFieldDescriptor (zT8 k).2.2.1 = some (zy8 k) := by decide +kernel
def zcn : Nat → String := fun k => match k with
  | 0 => zR0
  | 1 => zR1
  | 2 => zR2
  | 3 => zR3
  | 4 => zR4
  | 5 => zR5
  | 6 => zR6
  | 7 => zR7
  | 8 => zR8
  | 9 => zR9
  | 10 => zR10
  | 11 => zR11
  | 12 => zR12
  | 13 => zR13
  | _ => zR14
abbrev zcl : List vw_C := [(zR0, zT0, 11), (zR1, zT1, 5), (zR2, zT2, 4), (zR3, zT3, 7), (zR4, zT4, 4), (zR5, zT5, 7), (zR6, zT6, 2), (zR7, zT7, 7), (zR8, zT8, 21)]
def zTT : Nat → u_T := fun k => match k with
  | 0 => zT0
  | 1 => zT1
  | 2 => zT2
  | 3 => zT3
  | 4 => zT4
  | 5 => zT5
  | 6 => zT6
  | 7 => zT7
  | _ => zT8
def zYY : Nat → Nat → FieldType := fun k => match k with
  | 0 => zy0
  | 1 => zy1
  | 2 => zy2
  | 3 => zy3
  | 4 => zy4
  | 5 => zy5
  | 6 => zy6
  | 7 => zy7
  | _ => zy8
def zNN : Nat → Nat := fun k => match k with
  | 0 => 11
  | 1 => 5
  | 2 => 4
  | 3 => 7
  | 4 => 4
  | 5 => 7
  | 6 => 2
  | 7 => 7
  | _ => 21
theorem zTbl_ex : ∃ l : List Cond, l = lw_tbl.filter goodWord := ⟨_, rfl⟩
noncomputable def zTbl : List Cond := Classical.choose zTbl_ex
theorem zTbl_eq : zTbl = lw_tbl.filter goodWord := Classical.choose_spec zTbl_ex
theorem zt (i : Nat) {w : Cond} (h : lw_tbl[i]? = some w) (hg : goodWord w = true) : w ∈ zTbl := by rw [zTbl_eq]; exact List.mem_filter.mpr ⟨List.mem_of_getElem? h, hg⟩
theorem zgw {w : Cond} (h : w ∈ zTbl) : goodWord w = true := by rw [zTbl_eq] at h; exact (List.mem_filter.mp h).2
theorem zw0 : ∀ w ∈ u_ws zR0 zT0 11, w ∈ zTbl := by
  intro w hw
  simp only [u_ws, List.mem_map, List.mem_range] at hw
  obtain ⟨k, hk, rfl⟩ := hw
  match k, hk with
  | 0, _ => exact zt 178 (by decide +kernel) rfl
  | 1, _ => exact zt 180 (by decide +kernel) rfl
  | 2, _ => exact zt 182 (by decide +kernel) rfl
  | 3, _ => exact zt 184 (by decide +kernel) rfl
  | 4, _ => exact zt 186 (by decide +kernel) rfl
  | 5, _ => exact zt 188 (by decide +kernel) rfl
  | 6, _ => exact zt 190 (by decide +kernel) rfl
  | 7, _ => exact zt 192 (by decide +kernel) rfl
  | 8, _ => exact zt 194 (by decide +kernel) rfl
  | 9, _ => exact zt 196 (by decide +kernel) rfl
  | 10, _ => exact zt 198 (by decide +kernel) rfl
  | k + 11, h => omega
theorem zw1 : ∀ w ∈ u_ws zR1 zT1 5, w ∈ zTbl := by
  intro w hw
  simp only [u_ws, List.mem_map, List.mem_range] at hw
  obtain ⟨k, hk, rfl⟩ := hw
  match k, hk with
  | 0, _ => exact zt 290 (by decide +kernel) rfl
  | 1, _ => exact zt 292 (by decide +kernel) rfl
  | 2, _ => exact zt 294 (by decide +kernel) rfl
  | 3, _ => exact zt 296 (by decide +kernel) rfl
  | 4, _ => exact zt 298 (by decide +kernel) rfl
  | k + 5, h => omega
theorem zw2 : ∀ w ∈ u_ws zR2 zT2 4, w ∈ zTbl := by
  intro w hw
  simp only [u_ws, List.mem_map, List.mem_range] at hw
  obtain ⟨k, hk, rfl⟩ := hw
  match k, hk with
  | 0, _ => exact zt 216 (by decide +kernel) rfl
  | 1, _ => exact zt 218 (by decide +kernel) rfl
  | 2, _ => exact zt 220 (by decide +kernel) rfl
  | 3, _ => exact zt 222 (by decide +kernel) rfl
  | k + 4, h => omega
theorem zw3 : ∀ w ∈ u_ws zR3 zT3 7, w ∈ zTbl := by
  intro w hw
  simp only [u_ws, List.mem_map, List.mem_range] at hw
  obtain ⟨k, hk, rfl⟩ := hw
  match k, hk with
  | 0, _ => exact zt 136 (by decide +kernel) rfl
  | 1, _ => exact zt 138 (by decide +kernel) rfl
  | 2, _ => exact zt 140 (by decide +kernel) rfl
  | 3, _ => exact zt 142 (by decide +kernel) rfl
  | 4, _ => exact zt 144 (by decide +kernel) rfl
  | 5, _ => exact zt 146 (by decide +kernel) rfl
  | 6, _ => exact zt 148 (by decide +kernel) rfl
  | k + 7, h => omega
theorem zw4 : ∀ w ∈ u_ws zR4 zT4 4, w ∈ zTbl := by
  intro w hw
  simp only [u_ws, List.mem_map, List.mem_range] at hw
  obtain ⟨k, hk, rfl⟩ := hw
  match k, hk with
  | 0, _ => exact zt 274 (by decide +kernel) rfl
  | 1, _ => exact zt 276 (by decide +kernel) rfl
  | 2, _ => exact zt 278 (by decide +kernel) rfl
  | 3, _ => exact zt 280 (by decide +kernel) rfl
  | k + 4, h => omega
theorem zw5 : ∀ w ∈ u_ws zR5 zT5 7, w ∈ zTbl := by
  intro w hw
  simp only [u_ws, List.mem_map, List.mem_range] at hw
  obtain ⟨k, hk, rfl⟩ := hw
  match k, hk with
  | 0, _ => exact zt 239 (by decide +kernel) rfl
  | 1, _ => exact zt 241 (by decide +kernel) rfl
  | 2, _ => exact zt 243 (by decide +kernel) rfl
  | 3, _ => exact zt 245 (by decide +kernel) rfl
  | 4, _ => exact zt 247 (by decide +kernel) rfl
  | 5, _ => exact zt 249 (by decide +kernel) rfl
  | 6, _ => exact zt 251 (by decide +kernel) rfl
  | k + 7, h => omega
theorem zw6 : ∀ w ∈ u_ws zR6 zT6 2, w ∈ zTbl := by
  intro w hw
  simp only [u_ws, List.mem_map, List.mem_range] at hw
  obtain ⟨k, hk, rfl⟩ := hw
  match k, hk with
  | 0, _ => exact zt 111 (by decide +kernel) rfl
  | 1, _ => exact zt 113 (by decide +kernel) rfl
  | k + 2, h => omega
theorem zw7 : ∀ w ∈ u_ws zR7 zT7 7, w ∈ zTbl := by
  intro w hw
  simp only [u_ws, List.mem_map, List.mem_range] at hw
  obtain ⟨k, hk, rfl⟩ := hw
  match k, hk with
  | 0, _ => exact zt 309 (by decide +kernel) rfl
  | 1, _ => exact zt 311 (by decide +kernel) rfl
  | 2, _ => exact zt 313 (by decide +kernel) rfl
  | 3, _ => exact zt 315 (by decide +kernel) rfl
  | 4, _ => exact zt 317 (by decide +kernel) rfl
  | 5, _ => exact zt 319 (by decide +kernel) rfl
  | 6, _ => exact zt 321 (by decide +kernel) rfl
  | k + 7, h => omega
theorem zw8 : ∀ w ∈ u_ws zR8 zT8 21, w ∈ zTbl := by
  intro w hw
  simp only [u_ws, List.mem_map, List.mem_range] at hw
  obtain ⟨k, hk, rfl⟩ := hw
  match k, hk with
  | 0, _ => exact zt 856 (by decide +kernel) rfl
  | 1, _ => exact zt 858 (by decide +kernel) rfl
  | 2, _ => exact zt 860 (by decide +kernel) rfl
  | 3, _ => exact zt 862 (by decide +kernel) rfl
  | 4, _ => exact zt 864 (by decide +kernel) rfl
  | 5, _ => exact zt 866 (by decide +kernel) rfl
  | 6, _ => exact zt 868 (by decide +kernel) rfl
  | 7, _ => exact zt 870 (by decide +kernel) rfl
  | 8, _ => exact zt 872 (by decide +kernel) rfl
  | 9, _ => exact zt 874 (by decide +kernel) rfl
  | 10, _ => exact zt 876 (by decide +kernel) rfl
  | 11, _ => exact zt 878 (by decide +kernel) rfl
  | 12, _ => exact zt 880 (by decide +kernel) rfl
  | 13, _ => exact zt 882 (by decide +kernel) rfl
  | 14, _ => exact zt 884 (by decide +kernel) rfl
  | 15, _ => exact zt 886 (by decide +kernel) rfl
  | 16, _ => exact zt 888 (by decide +kernel) rfl
  | 17, _ => exact zt 890 (by decide +kernel) rfl
  | 18, _ => exact zt 892 (by decide +kernel) rfl
  | 19, _ => exact zt 894 (by decide +kernel) rfl
  | 20, _ => exact zt 896 (by decide +kernel) rfl
  | k + 21, h => omega
abbrev zFLs : List (Nat × Nat × Nat × Nat) := [(6, 9, 6, 0), (7, 50, 6, 0), (4, 54, 6, 0), (6, 15, 6, 1), (7, 59, 6, 1), (3, 9, 3, 0), (3, 22, 3, 1), (3, 15, 3, 2),
  (1, 42, 3, 2), (7, 108, 3, 2), (3, 19, 3, 3), (1, 79, 3, 3), (3, 32, 3, 4), (1, 76, 3, 4), (1, 33, 3, 5), (3, 35, 3, 5),
  (3, 47, 3, 6), (0, 9, 0, 0), (7, 147, 0, 0), (0, 15, 0, 1), (0, 36, 0, 2), (5, 67, 0, 2), (7, 156, 0, 2), (0, 18, 0, 3),
  (7, 168, 0, 3), (0, 21, 0, 4), (7, 159, 0, 4), (0, 24, 0, 5), (7, 165, 0, 5), (5, 74, 0, 6), (0, 44, 0, 6), (7, 153, 0, 6),
  (0, 27, 0, 7), (0, 30, 0, 8), (0, 33, 0, 9), (5, 77, 0, 10), (0, 47, 0, 10), (7, 263, 0, 10), (2, 9, 2, 0), (7, 293, 2, 0),
  (2, 15, 2, 1), (7, 291, 2, 1), (2, 18, 2, 2), (7, 295, 2, 2), (2, 21, 2, 3), (5, 80, 2, 3), (7, 215, 2, 3), (5, 12, 5, 0),
  (7, 46, 5, 0), (5, 18, 5, 1), (7, 65, 5, 1), (5, 25, 5, 2), (7, 94, 5, 2), (5, 32, 5, 3), (7, 132, 5, 3), (5, 39, 5, 4),
  (7, 203, 5, 4), (5, 43, 5, 5), (7, 191, 5, 5), (5, 47, 5, 6), (7, 212, 5, 6), (4, 9, 4, 0), (4, 15, 4, 1), (4, 18, 4, 2),
  (7, 82, 4, 2), (1, 68, 4, 2), (4, 27, 4, 3), (1, 47, 4, 3), (1, 12, 1, 0), (7, 72, 1, 0), (1, 18, 1, 1), (1, 22, 1, 2),
  (1, 29, 1, 3), (1, 39, 1, 4), (7, 12, 7, 0), (7, 16, 7, 1), (7, 20, 7, 2), (7, 27, 7, 3), (7, 31, 7, 4), (7, 35, 7, 5),
  (7, 39, 7, 6), (8, 7, 8, 0), (8, 13, 8, 1), (8, 16, 8, 2), (8, 236, 8, 3), (8, 45, 8, 4), (8, 20, 8, 5), (8, 23, 8, 6),
  (8, 26, 8, 7), (8, 99, 8, 8), (8, 30, 8, 9), (8, 103, 8, 10), (8, 134, 8, 11), (8, 33, 8, 12), (8, 117, 8, 13), (8, 125, 8, 14),
  (8, 128, 8, 15), (8, 36, 8, 16), (8, 39, 8, 17), (8, 243, 8, 18), (8, 42, 8, 19), (8, 282, 8, 20)]
def zFLw (q : Nat × Nat × Nat × Nat) : Cond := .fieldLink (zcn q.1) q.2.1 (zTT q.2.2.1 q.2.2.2).1 (zTT q.2.2.1 q.2.2.2).2.1 (zTT q.2.2.1 q.2.2.2).2.2.1
theorem zFL_ok : ∀ q ∈ zFLs, zFLw q ∈ zTbl := by
  intro q hq
  have h : ∀ k (hk : k < 102), zFLw (zFLs[k]'hk) ∈ zTbl := by
    intro k hk
    match k, hk with
    | 0, _ => exact (zt 106 (by decide +kernel) rfl : zFLw (6, 9, 6, 0) ∈ zTbl)
    | 1, _ => exact (zt 107 (by decide +kernel) rfl : zFLw (7, 50, 6, 0) ∈ zTbl)
    | 2, _ => exact (zt 108 (by decide +kernel) rfl : zFLw (4, 54, 6, 0) ∈ zTbl)
    | 3, _ => exact (zt 109 (by decide +kernel) rfl : zFLw (6, 15, 6, 1) ∈ zTbl)
    | 4, _ => exact (zt 110 (by decide +kernel) rfl : zFLw (7, 59, 6, 1) ∈ zTbl)
    | 5, _ => exact (zt 124 (by decide +kernel) rfl : zFLw (3, 9, 3, 0) ∈ zTbl)
    | 6, _ => exact (zt 125 (by decide +kernel) rfl : zFLw (3, 22, 3, 1) ∈ zTbl)
    | 7, _ => exact (zt 126 (by decide +kernel) rfl : zFLw (3, 15, 3, 2) ∈ zTbl)
    | 8, _ => exact (zt 127 (by decide +kernel) rfl : zFLw (1, 42, 3, 2) ∈ zTbl)
    | 9, _ => exact (zt 128 (by decide +kernel) rfl : zFLw (7, 108, 3, 2) ∈ zTbl)
    | 10, _ => exact (zt 129 (by decide +kernel) rfl : zFLw (3, 19, 3, 3) ∈ zTbl)
    | 11, _ => exact (zt 130 (by decide +kernel) rfl : zFLw (1, 79, 3, 3) ∈ zTbl)
    | 12, _ => exact (zt 131 (by decide +kernel) rfl : zFLw (3, 32, 3, 4) ∈ zTbl)
    | 13, _ => exact (zt 132 (by decide +kernel) rfl : zFLw (1, 76, 3, 4) ∈ zTbl)
    | 14, _ => exact (zt 133 (by decide +kernel) rfl : zFLw (1, 33, 3, 5) ∈ zTbl)
    | 15, _ => exact (zt 134 (by decide +kernel) rfl : zFLw (3, 35, 3, 5) ∈ zTbl)
    | 16, _ => exact (zt 135 (by decide +kernel) rfl : zFLw (3, 47, 3, 6) ∈ zTbl)
    | 17, _ => exact (zt 157 (by decide +kernel) rfl : zFLw (0, 9, 0, 0) ∈ zTbl)
    | 18, _ => exact (zt 158 (by decide +kernel) rfl : zFLw (7, 147, 0, 0) ∈ zTbl)
    | 19, _ => exact (zt 159 (by decide +kernel) rfl : zFLw (0, 15, 0, 1) ∈ zTbl)
    | 20, _ => exact (zt 160 (by decide +kernel) rfl : zFLw (0, 36, 0, 2) ∈ zTbl)
    | 21, _ => exact (zt 161 (by decide +kernel) rfl : zFLw (5, 67, 0, 2) ∈ zTbl)
    | 22, _ => exact (zt 162 (by decide +kernel) rfl : zFLw (7, 156, 0, 2) ∈ zTbl)
    | 23, _ => exact (zt 163 (by decide +kernel) rfl : zFLw (0, 18, 0, 3) ∈ zTbl)
    | 24, _ => exact (zt 164 (by decide +kernel) rfl : zFLw (7, 168, 0, 3) ∈ zTbl)
    | 25, _ => exact (zt 165 (by decide +kernel) rfl : zFLw (0, 21, 0, 4) ∈ zTbl)
    | 26, _ => exact (zt 166 (by decide +kernel) rfl : zFLw (7, 159, 0, 4) ∈ zTbl)
    | 27, _ => exact (zt 167 (by decide +kernel) rfl : zFLw (0, 24, 0, 5) ∈ zTbl)
    | 28, _ => exact (zt 168 (by decide +kernel) rfl : zFLw (7, 165, 0, 5) ∈ zTbl)
    | 29, _ => exact (zt 169 (by decide +kernel) rfl : zFLw (5, 74, 0, 6) ∈ zTbl)
    | 30, _ => exact (zt 170 (by decide +kernel) rfl : zFLw (0, 44, 0, 6) ∈ zTbl)
    | 31, _ => exact (zt 171 (by decide +kernel) rfl : zFLw (7, 153, 0, 6) ∈ zTbl)
    | 32, _ => exact (zt 172 (by decide +kernel) rfl : zFLw (0, 27, 0, 7) ∈ zTbl)
    | 33, _ => exact (zt 173 (by decide +kernel) rfl : zFLw (0, 30, 0, 8) ∈ zTbl)
    | 34, _ => exact (zt 174 (by decide +kernel) rfl : zFLw (0, 33, 0, 9) ∈ zTbl)
    | 35, _ => exact (zt 175 (by decide +kernel) rfl : zFLw (5, 77, 0, 10) ∈ zTbl)
    | 36, _ => exact (zt 176 (by decide +kernel) rfl : zFLw (0, 47, 0, 10) ∈ zTbl)
    | 37, _ => exact (zt 177 (by decide +kernel) rfl : zFLw (7, 263, 0, 10) ∈ zTbl)
    | 38, _ => exact (zt 207 (by decide +kernel) rfl : zFLw (2, 9, 2, 0) ∈ zTbl)
    | 39, _ => exact (zt 208 (by decide +kernel) rfl : zFLw (7, 293, 2, 0) ∈ zTbl)
    | 40, _ => exact (zt 209 (by decide +kernel) rfl : zFLw (2, 15, 2, 1) ∈ zTbl)
    | 41, _ => exact (zt 210 (by decide +kernel) rfl : zFLw (7, 291, 2, 1) ∈ zTbl)
    | 42, _ => exact (zt 211 (by decide +kernel) rfl : zFLw (2, 18, 2, 2) ∈ zTbl)
    | 43, _ => exact (zt 212 (by decide +kernel) rfl : zFLw (7, 295, 2, 2) ∈ zTbl)
    | 44, _ => exact (zt 213 (by decide +kernel) rfl : zFLw (2, 21, 2, 3) ∈ zTbl)
    | 45, _ => exact (zt 214 (by decide +kernel) rfl : zFLw (5, 80, 2, 3) ∈ zTbl)
    | 46, _ => exact (zt 215 (by decide +kernel) rfl : zFLw (7, 215, 2, 3) ∈ zTbl)
    | 47, _ => exact (zt 225 (by decide +kernel) rfl : zFLw (5, 12, 5, 0) ∈ zTbl)
    | 48, _ => exact (zt 226 (by decide +kernel) rfl : zFLw (7, 46, 5, 0) ∈ zTbl)
    | 49, _ => exact (zt 227 (by decide +kernel) rfl : zFLw (5, 18, 5, 1) ∈ zTbl)
    | 50, _ => exact (zt 228 (by decide +kernel) rfl : zFLw (7, 65, 5, 1) ∈ zTbl)
    | 51, _ => exact (zt 229 (by decide +kernel) rfl : zFLw (5, 25, 5, 2) ∈ zTbl)
    | 52, _ => exact (zt 230 (by decide +kernel) rfl : zFLw (7, 94, 5, 2) ∈ zTbl)
    | 53, _ => exact (zt 231 (by decide +kernel) rfl : zFLw (5, 32, 5, 3) ∈ zTbl)
    | 54, _ => exact (zt 232 (by decide +kernel) rfl : zFLw (7, 132, 5, 3) ∈ zTbl)
    | 55, _ => exact (zt 233 (by decide +kernel) rfl : zFLw (5, 39, 5, 4) ∈ zTbl)
    | 56, _ => exact (zt 234 (by decide +kernel) rfl : zFLw (7, 203, 5, 4) ∈ zTbl)
    | 57, _ => exact (zt 235 (by decide +kernel) rfl : zFLw (5, 43, 5, 5) ∈ zTbl)
    | 58, _ => exact (zt 236 (by decide +kernel) rfl : zFLw (7, 191, 5, 5) ∈ zTbl)
    | 59, _ => exact (zt 237 (by decide +kernel) rfl : zFLw (5, 47, 5, 6) ∈ zTbl)
    | 60, _ => exact (zt 238 (by decide +kernel) rfl : zFLw (7, 212, 5, 6) ∈ zTbl)
    | 61, _ => exact (zt 267 (by decide +kernel) rfl : zFLw (4, 9, 4, 0) ∈ zTbl)
    | 62, _ => exact (zt 268 (by decide +kernel) rfl : zFLw (4, 15, 4, 1) ∈ zTbl)
    | 63, _ => exact (zt 269 (by decide +kernel) rfl : zFLw (4, 18, 4, 2) ∈ zTbl)
    | 64, _ => exact (zt 270 (by decide +kernel) rfl : zFLw (7, 82, 4, 2) ∈ zTbl)
    | 65, _ => exact (zt 271 (by decide +kernel) rfl : zFLw (1, 68, 4, 2) ∈ zTbl)
    | 66, _ => exact (zt 272 (by decide +kernel) rfl : zFLw (4, 27, 4, 3) ∈ zTbl)
    | 67, _ => exact (zt 273 (by decide +kernel) rfl : zFLw (1, 47, 4, 3) ∈ zTbl)
    | 68, _ => exact (zt 284 (by decide +kernel) rfl : zFLw (1, 12, 1, 0) ∈ zTbl)
    | 69, _ => exact (zt 285 (by decide +kernel) rfl : zFLw (7, 72, 1, 0) ∈ zTbl)
    | 70, _ => exact (zt 286 (by decide +kernel) rfl : zFLw (1, 18, 1, 1) ∈ zTbl)
    | 71, _ => exact (zt 287 (by decide +kernel) rfl : zFLw (1, 22, 1, 2) ∈ zTbl)
    | 72, _ => exact (zt 288 (by decide +kernel) rfl : zFLw (1, 29, 1, 3) ∈ zTbl)
    | 73, _ => exact (zt 289 (by decide +kernel) rfl : zFLw (1, 39, 1, 4) ∈ zTbl)
    | 74, _ => exact (zt 302 (by decide +kernel) rfl : zFLw (7, 12, 7, 0) ∈ zTbl)
    | 75, _ => exact (zt 303 (by decide +kernel) rfl : zFLw (7, 16, 7, 1) ∈ zTbl)
    | 76, _ => exact (zt 304 (by decide +kernel) rfl : zFLw (7, 20, 7, 2) ∈ zTbl)
    | 77, _ => exact (zt 305 (by decide +kernel) rfl : zFLw (7, 27, 7, 3) ∈ zTbl)
    | 78, _ => exact (zt 306 (by decide +kernel) rfl : zFLw (7, 31, 7, 4) ∈ zTbl)
    | 79, _ => exact (zt 307 (by decide +kernel) rfl : zFLw (7, 35, 7, 5) ∈ zTbl)
    | 80, _ => exact (zt 308 (by decide +kernel) rfl : zFLw (7, 39, 7, 6) ∈ zTbl)
    | 81, _ => exact (zt 835 (by decide +kernel) rfl : zFLw (8, 7, 8, 0) ∈ zTbl)
    | 82, _ => exact (zt 836 (by decide +kernel) rfl : zFLw (8, 13, 8, 1) ∈ zTbl)
    | 83, _ => exact (zt 837 (by decide +kernel) rfl : zFLw (8, 16, 8, 2) ∈ zTbl)
    | 84, _ => exact (zt 838 (by decide +kernel) rfl : zFLw (8, 236, 8, 3) ∈ zTbl)
    | 85, _ => exact (zt 839 (by decide +kernel) rfl : zFLw (8, 45, 8, 4) ∈ zTbl)
    | 86, _ => exact (zt 840 (by decide +kernel) rfl : zFLw (8, 20, 8, 5) ∈ zTbl)
    | 87, _ => exact (zt 841 (by decide +kernel) rfl : zFLw (8, 23, 8, 6) ∈ zTbl)
    | 88, _ => exact (zt 842 (by decide +kernel) rfl : zFLw (8, 26, 8, 7) ∈ zTbl)
    | 89, _ => exact (zt 843 (by decide +kernel) rfl : zFLw (8, 99, 8, 8) ∈ zTbl)
    | 90, _ => exact (zt 844 (by decide +kernel) rfl : zFLw (8, 30, 8, 9) ∈ zTbl)
    | 91, _ => exact (zt 845 (by decide +kernel) rfl : zFLw (8, 103, 8, 10) ∈ zTbl)
    | 92, _ => exact (zt 846 (by decide +kernel) rfl : zFLw (8, 134, 8, 11) ∈ zTbl)
    | 93, _ => exact (zt 847 (by decide +kernel) rfl : zFLw (8, 33, 8, 12) ∈ zTbl)
    | 94, _ => exact (zt 848 (by decide +kernel) rfl : zFLw (8, 117, 8, 13) ∈ zTbl)
    | 95, _ => exact (zt 849 (by decide +kernel) rfl : zFLw (8, 125, 8, 14) ∈ zTbl)
    | 96, _ => exact (zt 850 (by decide +kernel) rfl : zFLw (8, 128, 8, 15) ∈ zTbl)
    | 97, _ => exact (zt 851 (by decide +kernel) rfl : zFLw (8, 36, 8, 16) ∈ zTbl)
    | 98, _ => exact (zt 852 (by decide +kernel) rfl : zFLw (8, 39, 8, 17) ∈ zTbl)
    | 99, _ => exact (zt 853 (by decide +kernel) rfl : zFLw (8, 243, 8, 18) ∈ zTbl)
    | 100, _ => exact (zt 854 (by decide +kernel) rfl : zFLw (8, 42, 8, 19) ∈ zTbl)
    | 101, _ => exact (zt 855 (by decide +kernel) rfl : zFLw (8, 282, 8, 20) ∈ zTbl)
    | k + 102, h => omega
  obtain ⟨k, hk, rfl⟩ := List.mem_iff_getElem.mp hq
  exact h k hk
abbrev zCs : List (Nat × Nat × Int) := [(7, 112, 268435456), (11, 265, 1431655765), (11, 266, 858993459), (11, 267, 252645135), (0, 84, 65536), (7, 231, 268435455), (0, 64, 268435455), (8, 246, 65536),
  (8, 265, 268435455)]
theorem zCs_ok : ∀ q ∈ zCs, Cond.constant (zcn q.1) q.2.1 (Int32.ofInt q.2.2) ∈ zTbl := by
  intro q hq
  have h : ∀ k (hk : k < 9), Cond.constant (zcn (zCs[k]'hk).1) (zCs[k]'hk).2.1 (Int32.ofInt (zCs[k]'hk).2.2) ∈ zTbl := by
    intro k hk
    match k, hk with
    | 0, _ => exact (zt 469 (by decide +kernel) rfl : Cond.constant (zcn 7) 112 (Int32.ofInt (268435456)) ∈ zTbl)
    | 1, _ => exact (zt 532 (by decide +kernel) rfl : Cond.constant (zcn 11) 265 (Int32.ofInt (1431655765)) ∈ zTbl)
    | 2, _ => exact (zt 533 (by decide +kernel) rfl : Cond.constant (zcn 11) 266 (Int32.ofInt (858993459)) ∈ zTbl)
    | 3, _ => exact (zt 534 (by decide +kernel) rfl : Cond.constant (zcn 11) 267 (Int32.ofInt (252645135)) ∈ zTbl)
    | 4, _ => exact (zt 644 (by decide +kernel) rfl : Cond.constant (zcn 0) 84 (Int32.ofInt (65536)) ∈ zTbl)
    | 5, _ => exact (zt 701 (by decide +kernel) rfl : Cond.constant (zcn 7) 231 (Int32.ofInt (268435455)) ∈ zTbl)
    | 6, _ => exact (zt 747 (by decide +kernel) rfl : Cond.constant (zcn 0) 64 (Int32.ofInt (268435455)) ∈ zTbl)
    | 7, _ => exact (zt 1153 (by decide +kernel) rfl : Cond.constant (zcn 8) 246 (Int32.ofInt (65536)) ∈ zTbl)
    | 8, _ => exact (zt 1198 (by decide +kernel) rfl : Cond.constant (zcn 8) 265 (Int32.ofInt (268435455)) ∈ zTbl)
    | k + 9, h => omega
  obtain ⟨k, hk, rfl⟩ := List.mem_iff_getElem.mp hq
  exact h k hk
abbrev zLs : List (Nat × Nat × Int) := [(7, 189, -1), (7, 266, 431), (7, 276, 31), (8, 49, 3), (8, 55, 80), (8, 64, 15), (8, 70, 8), (8, 72, 511),
  (8, 74, 7), (8, 80, 4), (8, 97, 127), (8, 121, 48), (8, 123, 57), (8, 143, 10), (8, 172, 268435455), (8, 187, 9),
  (8, 195, 999), (8, 239, -1), (8, 241, 28), (8, 272, 37), (8, 289, 431), (8, 280, 31)]
theorem zLs_ok : ∀ q ∈ zLs, Cond.constantLong (zcn q.1) q.2.1 (Int64.ofInt q.2.2) ∈ zTbl := by
  intro q hq
  have h : ∀ k (hk : k < 22), Cond.constantLong (zcn (zLs[k]'hk).1) (zLs[k]'hk).2.1 (Int64.ofInt (zLs[k]'hk).2.2) ∈ zTbl := by
    intro k hk
    match k, hk with
    | 0, _ => exact (zt 617 (by decide +kernel) rfl : Cond.constantLong (zcn 7) 189 (Int64.ofInt (-1)) ∈ zTbl)
    | 1, _ => exact (zt 795 (by decide +kernel) rfl : Cond.constantLong (zcn 7) 266 (Int64.ofInt (431)) ∈ zTbl)
    | 2, _ => exact (zt 803 (by decide +kernel) rfl : Cond.constantLong (zcn 7) 276 (Int64.ofInt (31)) ∈ zTbl)
    | 3, _ => exact (zt 906 (by decide +kernel) rfl : Cond.constantLong (zcn 8) 49 (Int64.ofInt (3)) ∈ zTbl)
    | 4, _ => exact (zt 913 (by decide +kernel) rfl : Cond.constantLong (zcn 8) 55 (Int64.ofInt (80)) ∈ zTbl)
    | 5, _ => exact (zt 914 (by decide +kernel) rfl : Cond.constantLong (zcn 8) 64 (Int64.ofInt (15)) ∈ zTbl)
    | 6, _ => exact (zt 923 (by decide +kernel) rfl : Cond.constantLong (zcn 8) 70 (Int64.ofInt (8)) ∈ zTbl)
    | 7, _ => exact (zt 924 (by decide +kernel) rfl : Cond.constantLong (zcn 8) 72 (Int64.ofInt (511)) ∈ zTbl)
    | 8, _ => exact (zt 929 (by decide +kernel) rfl : Cond.constantLong (zcn 8) 74 (Int64.ofInt (7)) ∈ zTbl)
    | 9, _ => exact (zt 937 (by decide +kernel) rfl : Cond.constantLong (zcn 8) 80 (Int64.ofInt (4)) ∈ zTbl)
    | 10, _ => exact (zt 961 (by decide +kernel) rfl : Cond.constantLong (zcn 8) 97 (Int64.ofInt (127)) ∈ zTbl)
    | 11, _ => exact (zt 978 (by decide +kernel) rfl : Cond.constantLong (zcn 8) 121 (Int64.ofInt (48)) ∈ zTbl)
    | 12, _ => exact (zt 979 (by decide +kernel) rfl : Cond.constantLong (zcn 8) 123 (Int64.ofInt (57)) ∈ zTbl)
    | 13, _ => exact (zt 980 (by decide +kernel) rfl : Cond.constantLong (zcn 8) 143 (Int64.ofInt (10)) ∈ zTbl)
    | 14, _ => exact (zt 1017 (by decide +kernel) rfl : Cond.constantLong (zcn 8) 172 (Int64.ofInt (268435455)) ∈ zTbl)
    | 15, _ => exact (zt 1055 (by decide +kernel) rfl : Cond.constantLong (zcn 8) 187 (Int64.ofInt (9)) ∈ zTbl)
    | 16, _ => exact (zt 1072 (by decide +kernel) rfl : Cond.constantLong (zcn 8) 195 (Int64.ofInt (999)) ∈ zTbl)
    | 17, _ => exact (zt 1139 (by decide +kernel) rfl : Cond.constantLong (zcn 8) 239 (Int64.ofInt (-1)) ∈ zTbl)
    | 18, _ => exact (zt 1144 (by decide +kernel) rfl : Cond.constantLong (zcn 8) 241 (Int64.ofInt (28)) ∈ zTbl)
    | 19, _ => exact (zt 1211 (by decide +kernel) rfl : Cond.constantLong (zcn 8) 272 (Int64.ofInt (37)) ∈ zTbl)
    | 20, _ => exact (zt 1244 (by decide +kernel) rfl : Cond.constantLong (zcn 8) 289 (Int64.ofInt (431)) ∈ zTbl)
    | 21, _ => exact (zt 1249 (by decide +kernel) rfl : Cond.constantLong (zcn 8) 280 (Int64.ofInt (31)) ∈ zTbl)
    | k + 22, h => omega
  obtain ⟨k, hk, rfl⟩ := List.mem_iff_getElem.mp hq
  exact h k hk
abbrev zNest : List (Nat × Nat × MethodName) := [(7, 11, ⟨"DiscLines$State", "<init>", "()V"⟩), (5, 11, ⟨"DiscLines$World", "<init>", "()V"⟩), (5, 24, ⟨"DiscLines$Law", "<init>", "()V"⟩),
  (5, 31, ⟨"DiscLines$Book", "<init>", "()V"⟩), (5, 38, ⟨"DiscLines$Guesses", "<init>", "()V"⟩), (7, 26, ⟨"DiscLines$Eye", "<init>", "()V"⟩),
  (1, 11, ⟨"DiscLines$Picture", "<init>", "()V"⟩), (6, 18, ⟨"DiscLines", "has", "(II)Z"⟩), (4, 34, ⟨"DiscLines", "isOneOf", "(II)Z"⟩),
  (1, 64, ⟨"DiscLines", "isOneOf", "(II)Z"⟩), (0, 40, ⟨"DiscLines", "isOneOf", "(II)Z"⟩), (0, 61, ⟨"DiscLines", "has", "(II)Z"⟩),
  (2, 25, ⟨"DiscLines", "isOneOf", "(II)Z"⟩), (2, 29, ⟨"DiscLines", "has", "(II)Z"⟩), (6, 28, ⟨"DiscLines", "copyRow", "([I[I)V"⟩),
  (5, 54, ⟨"DiscLines", "copyRow", "([I[I)V"⟩), (3, 28, ⟨"DiscLines", "copyRow", "([I[I)V"⟩), (0, 101, ⟨"DiscLines", "copyRow", "([I[I)V"⟩),
  (2, 32, ⟨"DiscLines", "copyRow", "([I[I)V"⟩), (5, 70, ⟨"DiscLines", "mix", "(JJ)J"⟩), (6, 32, ⟨"DiscLines", "mixRow", "(J[II)J"⟩),
  (5, 87, ⟨"DiscLines", "mixRow", "(J[II)J"⟩), (3, 39, ⟨"DiscLines", "mix", "(JJ)J"⟩), (3, 43, ⟨"DiscLines", "mixRow", "(J[II)J"⟩),
  (0, 105, ⟨"DiscLines", "mix", "(JJ)J"⟩), (2, 36, ⟨"DiscLines", "mix", "(JJ)J"⟩)]
def zNw (q : Nat × Nat × MethodName) : Cond := .methodLinkNest (zcn q.1) q.2.1 q.2.2 "DiscLines"
theorem zNest_ok : ∀ q ∈ zNest, zNw q ∈ lw_tbl := by
  intro q hq
  have h : ∀ k (hk : k < 26), zNw (zNest[k]'hk) ∈ lw_tbl := by
    intro k hk
    match k, hk with
    | 0, _ => exact (List.mem_of_getElem? (i := 95) (by decide +kernel) : zNw (7, 11, ⟨"DiscLines$State", "<init>", "()V"⟩) ∈ lw_tbl)
    | 1, _ => exact (List.mem_of_getElem? (i := 102) (by decide +kernel) : zNw (5, 11, ⟨"DiscLines$World", "<init>", "()V"⟩) ∈ lw_tbl)
    | 2, _ => exact (List.mem_of_getElem? (i := 120) (by decide +kernel) : zNw (5, 24, ⟨"DiscLines$Law", "<init>", "()V"⟩) ∈ lw_tbl)
    | 3, _ => exact (List.mem_of_getElem? (i := 153) (by decide +kernel) : zNw (5, 31, ⟨"DiscLines$Book", "<init>", "()V"⟩) ∈ lw_tbl)
    | 4, _ => exact (List.mem_of_getElem? (i := 203) (by decide +kernel) : zNw (5, 38, ⟨"DiscLines$Guesses", "<init>", "()V"⟩) ∈ lw_tbl)
    | 5, _ => exact (List.mem_of_getElem? (i := 257) (by decide +kernel) : zNw (7, 26, ⟨"DiscLines$Eye", "<init>", "()V"⟩) ∈ lw_tbl)
    | 6, _ => exact (List.mem_of_getElem? (i := 263) (by decide +kernel) : zNw (1, 11, ⟨"DiscLines$Picture", "<init>", "()V"⟩) ∈ lw_tbl)
    | 7, _ => exact (List.mem_of_getElem? (i := 361) (by decide +kernel) : zNw (6, 18, ⟨"DiscLines", "has", "(II)Z"⟩) ∈ lw_tbl)
    | 8, _ => exact (List.mem_of_getElem? (i := 371) (by decide +kernel) : zNw (4, 34, ⟨"DiscLines", "isOneOf", "(II)Z"⟩) ∈ lw_tbl)
    | 9, _ => exact (List.mem_of_getElem? (i := 489) (by decide +kernel) : zNw (1, 64, ⟨"DiscLines", "isOneOf", "(II)Z"⟩) ∈ lw_tbl)
    | 10, _ => exact (List.mem_of_getElem? (i := 544) (by decide +kernel) : zNw (0, 40, ⟨"DiscLines", "isOneOf", "(II)Z"⟩) ∈ lw_tbl)
    | 11, _ => exact (List.mem_of_getElem? (i := 573) (by decide +kernel) : zNw (0, 61, ⟨"DiscLines", "has", "(II)Z"⟩) ∈ lw_tbl)
    | 12, _ => exact (List.mem_of_getElem? (i := 666) (by decide +kernel) : zNw (2, 25, ⟨"DiscLines", "isOneOf", "(II)Z"⟩) ∈ lw_tbl)
    | 13, _ => exact (List.mem_of_getElem? (i := 700) (by decide +kernel) : zNw (2, 29, ⟨"DiscLines", "has", "(II)Z"⟩) ∈ lw_tbl)
    | 14, _ => exact (List.mem_of_getElem? (i := 761) (by decide +kernel) : zNw (6, 28, ⟨"DiscLines", "copyRow", "([I[I)V"⟩) ∈ lw_tbl)
    | 15, _ => exact (List.mem_of_getElem? (i := 767) (by decide +kernel) : zNw (5, 54, ⟨"DiscLines", "copyRow", "([I[I)V"⟩) ∈ lw_tbl)
    | 16, _ => exact (List.mem_of_getElem? (i := 772) (by decide +kernel) : zNw (3, 28, ⟨"DiscLines", "copyRow", "([I[I)V"⟩) ∈ lw_tbl)
    | 17, _ => exact (List.mem_of_getElem? (i := 777) (by decide +kernel) : zNw (0, 101, ⟨"DiscLines", "copyRow", "([I[I)V"⟩) ∈ lw_tbl)
    | 18, _ => exact (List.mem_of_getElem? (i := 782) (by decide +kernel) : zNw (2, 32, ⟨"DiscLines", "copyRow", "([I[I)V"⟩) ∈ lw_tbl)
    | 19, _ => exact (List.mem_of_getElem? (i := 800) (by decide +kernel) : zNw (5, 70, ⟨"DiscLines", "mix", "(JJ)J"⟩) ∈ lw_tbl)
    | 20, _ => exact (List.mem_of_getElem? (i := 808) (by decide +kernel) : zNw (6, 32, ⟨"DiscLines", "mixRow", "(J[II)J"⟩) ∈ lw_tbl)
    | 21, _ => exact (List.mem_of_getElem? (i := 812) (by decide +kernel) : zNw (5, 87, ⟨"DiscLines", "mixRow", "(J[II)J"⟩) ∈ lw_tbl)
    | 22, _ => exact (List.mem_of_getElem? (i := 817) (by decide +kernel) : zNw (3, 39, ⟨"DiscLines", "mix", "(JJ)J"⟩) ∈ lw_tbl)
    | 23, _ => exact (List.mem_of_getElem? (i := 818) (by decide +kernel) : zNw (3, 43, ⟨"DiscLines", "mixRow", "(J[II)J"⟩) ∈ lw_tbl)
    | 24, _ => exact (List.mem_of_getElem? (i := 823) (by decide +kernel) : zNw (0, 105, ⟨"DiscLines", "mix", "(JJ)J"⟩) ∈ lw_tbl)
    | 25, _ => exact (List.mem_of_getElem? (i := 828) (by decide +kernel) : zNw (2, 36, ⟨"DiscLines", "mix", "(JJ)J"⟩) ∈ lw_tbl)
    | k + 26, h => omega
  obtain ⟨k, hk, rfl⟩ := List.mem_iff_getElem.mp hq
  exact h k hk
