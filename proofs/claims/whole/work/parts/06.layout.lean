/-! the layout: kind and places of each cell that the constructors make, by its relative address; kinds 0..11 objects, 12 bytes, 13 ints, 14 longs, 15 ladies, 16 logs -/
def ltL : List (Nat × Nat) := [(99, 0), (10, 17), (13, 400), (3, 15), (1, 5), (13, 60), (13, 12), (13, 12), (13, 12), (4, 7), (13, 12), (13, 12), (13, 12), (13, 400), (13, 64), (7, 3), (13, 240), (0, 4), (15, 12), (16, 12), (3, 15), (1, 5), (13, 60), (13, 12), (13, 12), (13, 12), (7, 3), (13, 240), (3, 15), (1, 5), (13, 60), (13, 12), (13, 12), (13, 12), (7, 3), (13, 240), (3, 15), (1, 5), (13, 60), (13, 12), (13, 12), (13, 12), (7, 3), (13, 240), (3, 15), (1, 5), (13, 60), (13, 12), (13, 12), (13, 12), (7, 3), (13, 240), (3, 15), (1, 5), (13, 60), (13, 12), (13, 12), (13, 12), (7, 3), (13, 240), (3, 15), (1, 5), (13, 60), (13, 12), (13, 12), (13, 12), (7, 3), (13, 240), (3, 15), (1, 5), (13, 60), (13, 12), (13, 12), (13, 12), (7, 3), (13, 240), (3, 15), (1, 5), (13, 60), (13, 12), (13, 12), (13, 12), (7, 3), (13, 240), (3, 15), (1, 5), (13, 60), (13, 12), (13, 12), (13, 12), (7, 3), (13, 240), (3, 15), (1, 5), (13, 60), (13, 12), (13, 12), (13, 12), (7, 3), (13, 240), (3, 15), (1, 5), (13, 60), (13, 12), (13, 12), (13, 12), (7, 3), (13, 240), (3, 15), (1, 5), (13, 60), (13, 12), (13, 12), (13, 12), (7, 3), (13, 240), (3, 15), (1, 5), (13, 60), (13, 12), (13, 12), (13, 12), (4, 7), (13, 12), (13, 12), (13, 12), (13, 400), (13, 64), (7, 3), (13, 240), (3, 15), (1, 5), (13, 60), (13, 12), (13, 12), (13, 12), (9, 4), (13, 9), (6, 6), (13, 0), (3, 15), (1, 5), (13, 60), (13, 12), (13, 12), (13, 12), (5, 9), (13, 0), (4, 7), (13, 12), (13, 12), (13, 12), (13, 400), (13, 64), (13, 21), (8, 5), (13, 6), (13, 6), (15, 7), (3, 15), (1, 5), (13, 60), (13, 12), (13, 12), (13, 12), (3, 15), (1, 5), (13, 60), (13, 12), (13, 12), (13, 12), (3, 15), (1, 5), (13, 60), (13, 12), (13, 12), (13, 12), (3, 15), (1, 5), (13, 60), (13, 12), (13, 12), (13, 12), (3, 15), (1, 5), (13, 60), (13, 12), (13, 12), (13, 12), (3, 15), (1, 5), (13, 60), (13, 12), (13, 12), (13, 12), (3, 15), (1, 5), (13, 60), (13, 12), (13, 12), (13, 12), (2, 6), (13, 60), (13, 5), (13, 5), (11, 22), (13, 2051), (13, 1202), (13, 1202), (13, 353), (13, 4236), (12, 400), (13, 5), (13, 400), (13, 6), (13, 6), (13, 4096), (14, 7), (14, 1)]
def LT (a : Nat) : Nat × Nat := ltL.getD a (99, 0)
abbrev NT : Nat := 219
def strL : List (String × Nat × String) := [("BiteYears", 120, "the text of the life is wrong"), ("BiteYears", 130, "there are twelve texts of the life"), ("BiteYears", 140, "the text of the law is wrong"), ("BiteYears", 160, "no such dish"), ("BiteYears", 165, "nothing such is known of a dish"), ("BiteYears", 225, "she takes no spoon any more"), ("BiteYears", 258, "no such dish, or no such place"), ("BiteYears", 260, "no such day, or no such company"), ("BiteYears", 268, "the dish is new"), ("BiteYears", 270, "no such reach"), ("BiteYears", 272, "no such place"), ("BiteYears", 283, "no such number of evenings"), ("BiteYears", 302, "the tape is no menu"), ("BiteYears", 304, "nothing such is known of a menu"), ("BiteYears", 306, "no such ages"), ("BiteYears", 316, "more than six dishes"), ("BiteYears", 331, "the tape is no row of ages and places"), ("BiteYears", 336, "the tape is no row of looks"), ("BiteYears", 355, "the tape is no row of jars"), ("BiteYears", 371, "both dishes are one"), ("BiteYears", 379, "no such company"), ("BiteYears", 381, "no such number of looks or slips"), ("BiteYears", 408, "nothing such stands in the log"), ("BiteYears$LawText", 37, "if"), ("BiteYears$LawText", 54, "grief"), ("BiteYears$LawText", 56, "joy"), ("BiteYears$LawText", 58, "pay"), ("BiteYears$LawText", 82, "not"), ("BiteYears$LawText", 88, "and"), ("BiteYears$LawText", 90, "or"), ("BiteYears$LawText", 98, "new"), ("BiteYears$LawText", 102, "war"), ("BiteYears$LawText", 104, "alone"), ("BiteYears$LawText", 115, "dish"), ("BiteYears$LawText", 117, "day"), ("BiteYears$LawText", 119, "place"), ("BiteYears$LawText", 121, "company"), ("BiteYears$LawText", 123, "sorrow"), ("BiteYears$LawText", 125, "spoons"), ("BiteYears$LifeText", 18, "dish"), ("BiteYears$LifeText", 38, "war"), ("BiteYears$LifeText", 43, "today"), ("BiteYears$LifeText", 54, "reach"), ("BiteYears$LifeText", 58, "slip"), ("BiteYears$LifeText", 62, "house"), ("BiteYears$LifeText", 66, "wage"), ("BiteYears$LifeText", 70, "to"), ("BiteYears$LifeText", 93, "first"), ("BiteYears$LifeText", 102, "at"), ("BiteYears$LifeText", 103, "with"), ("BiteYearsModel", 116, "first"), ("BiteYearsModel", 121, "at"), ("BiteYearsModel", 126, "with"), ("BiteYearsModel", 138, "to"), ("BiteYearsModel", 140, "dish"), ("BiteYearsModel", 146, "today"), ("BiteYearsModel", 151, "war"), ("BiteYearsModel", 156, "reach"), ("BiteYearsModel", 158, "slip"), ("BiteYearsModel", 160, "house"), ("BiteYearsModel", 162, "wage"), ("BiteYearsModel", 167, "day"), ("BiteYearsModel", 169, "place"), ("BiteYearsModel", 171, "company"), ("BiteYearsModel", 173, "sorrow"), ("BiteYearsModel", 175, "spoons"), ("BiteYearsModel", 190, "new"), ("BiteYearsModel", 192, "alone"), ("BiteYearsModel", 200, "not"), ("BiteYearsModel", 211, "and"), ("BiteYearsModel", 216, "or"), ("BiteYearsModel", 218, "grief"), ("BiteYearsModel", 220, "joy"), ("BiteYearsModel", 222, "pay"), ("BiteYearsModel", 224, "if")]
def lenL : List Nat := [29, 34, 28, 12, 31, 27, 30, 31, 15, 13, 13, 26, 19, 31, 12, 20, 37, 27, 26, 19, 15, 32, 30, 2, 5, 3, 3, 3, 3, 2, 3, 3, 5, 4, 3, 5, 7, 6, 6, 4, 3, 5, 5, 4, 5, 4, 2, 5, 2, 4, 5, 2, 4, 2, 4, 5, 3, 5, 4, 5, 4, 3, 5, 7, 6, 6, 3, 5, 3, 3, 2, 5, 3, 3, 2]
def bytL : List (List Int32) := [[116, 104, 101, 32, 116, 101, 120, 116, 32, 111, 102, 32, 116, 104, 101, 32, 108, 105, 102, 101, 32, 105, 115, 32, 119, 114, 111, 110, 103], [116, 104, 101, 114, 101, 32, 97, 114, 101, 32, 116, 119, 101, 108, 118, 101, 32, 116, 101, 120, 116, 115, 32, 111, 102, 32, 116, 104, 101, 32, 108, 105, 102, 101], [116, 104, 101, 32, 116, 101, 120, 116, 32, 111, 102, 32, 116, 104, 101, 32, 108, 97, 119, 32, 105, 115, 32, 119, 114, 111, 110, 103], [110, 111, 32, 115, 117, 99, 104, 32, 100, 105, 115, 104], [110, 111, 116, 104, 105, 110, 103, 32, 115, 117, 99, 104, 32, 105, 115, 32, 107, 110, 111, 119, 110, 32, 111, 102, 32, 97, 32, 100, 105, 115, 104], [115, 104, 101, 32, 116, 97, 107, 101, 115, 32, 110, 111, 32, 115, 112, 111, 111, 110, 32, 97, 110, 121, 32, 109, 111, 114, 101], [110, 111, 32, 115, 117, 99, 104, 32, 100, 105, 115, 104, 44, 32, 111, 114, 32, 110, 111, 32, 115, 117, 99, 104, 32, 112, 108, 97, 99, 101], [110, 111, 32, 115, 117, 99, 104, 32, 100, 97, 121, 44, 32, 111, 114, 32, 110, 111, 32, 115, 117, 99, 104, 32, 99, 111, 109, 112, 97, 110, 121], [116, 104, 101, 32, 100, 105, 115, 104, 32, 105, 115, 32, 110, 101, 119], [110, 111, 32, 115, 117, 99, 104, 32, 114, 101, 97, 99, 104], [110, 111, 32, 115, 117, 99, 104, 32, 112, 108, 97, 99, 101], [110, 111, 32, 115, 117, 99, 104, 32, 110, 117, 109, 98, 101, 114, 32, 111, 102, 32, 101, 118, 101, 110, 105, 110, 103, 115], [116, 104, 101, 32, 116, 97, 112, 101, 32, 105, 115, 32, 110, 111, 32, 109, 101, 110, 117], [110, 111, 116, 104, 105, 110, 103, 32, 115, 117, 99, 104, 32, 105, 115, 32, 107, 110, 111, 119, 110, 32, 111, 102, 32, 97, 32, 109, 101, 110, 117], [110, 111, 32, 115, 117, 99, 104, 32, 97, 103, 101, 115], [109, 111, 114, 101, 32, 116, 104, 97, 110, 32, 115, 105, 120, 32, 100, 105, 115, 104, 101, 115], [116, 104, 101, 32, 116, 97, 112, 101, 32, 105, 115, 32, 110, 111, 32, 114, 111, 119, 32, 111, 102, 32, 97, 103, 101, 115, 32, 97, 110, 100, 32, 112, 108, 97, 99, 101, 115], [116, 104, 101, 32, 116, 97, 112, 101, 32, 105, 115, 32, 110, 111, 32, 114, 111, 119, 32, 111, 102, 32, 108, 111, 111, 107, 115], [116, 104, 101, 32, 116, 97, 112, 101, 32, 105, 115, 32, 110, 111, 32, 114, 111, 119, 32, 111, 102, 32, 106, 97, 114, 115], [98, 111, 116, 104, 32, 100, 105, 115, 104, 101, 115, 32, 97, 114, 101, 32, 111, 110, 101], [110, 111, 32, 115, 117, 99, 104, 32, 99, 111, 109, 112, 97, 110, 121], [110, 111, 32, 115, 117, 99, 104, 32, 110, 117, 109, 98, 101, 114, 32, 111, 102, 32, 108, 111, 111, 107, 115, 32, 111, 114, 32, 115, 108, 105, 112, 115], [110, 111, 116, 104, 105, 110, 103, 32, 115, 117, 99, 104, 32, 115, 116, 97, 110, 100, 115, 32, 105, 110, 32, 116, 104, 101, 32, 108, 111, 103], [105, 102], [103, 114, 105, 101, 102], [106, 111, 121], [112, 97, 121], [110, 111, 116], [97, 110, 100], [111, 114], [110, 101, 119], [119, 97, 114], [97, 108, 111, 110, 101], [100, 105, 115, 104], [100, 97, 121], [112, 108, 97, 99, 101], [99, 111, 109, 112, 97, 110, 121], [115, 111, 114, 114, 111, 119], [115, 112, 111, 111, 110, 115], [100, 105, 115, 104], [119, 97, 114], [116, 111, 100, 97, 121], [114, 101, 97, 99, 104], [115, 108, 105, 112], [104, 111, 117, 115, 101], [119, 97, 103, 101], [116, 111], [102, 105, 114, 115, 116], [97, 116], [119, 105, 116, 104], [102, 105, 114, 115, 116], [97, 116], [119, 105, 116, 104], [116, 111], [100, 105, 115, 104], [116, 111, 100, 97, 121], [119, 97, 114], [114, 101, 97, 99, 104], [115, 108, 105, 112], [104, 111, 117, 115, 101], [119, 97, 103, 101], [100, 97, 121], [112, 108, 97, 99, 101], [99, 111, 109, 112, 97, 110, 121], [115, 111, 114, 114, 111, 119], [115, 112, 111, 111, 110, 115], [110, 101, 119], [97, 108, 111, 110, 101], [110, 111, 116], [97, 110, 100], [111, 114], [103, 114, 105, 101, 102], [106, 111, 121], [112, 97, 121], [105, 102]]
def ncL : List (String × String) := [("java/lang/IllegalArgumentException", "java/lang/UnsupportedOperationException"), ("java/lang/IllegalArgumentException", "java/lang/IndexOutOfBoundsException"), ("java/lang/IllegalArgumentException", "java/util/NoSuchElementException"), ("java/lang/IllegalArgumentException", "java/lang/IllegalStateException"), ("java/lang/UnsupportedOperationException", "java/lang/IllegalArgumentException"), ("java/lang/UnsupportedOperationException", "java/lang/IndexOutOfBoundsException"), ("java/lang/UnsupportedOperationException", "java/util/NoSuchElementException"), ("java/lang/UnsupportedOperationException", "java/lang/IllegalStateException"), ("java/lang/IndexOutOfBoundsException", "java/lang/IllegalArgumentException"), ("java/lang/IndexOutOfBoundsException", "java/lang/UnsupportedOperationException"), ("java/lang/IndexOutOfBoundsException", "java/util/NoSuchElementException"), ("java/lang/IndexOutOfBoundsException", "java/lang/IllegalStateException"), ("java/util/NoSuchElementException", "java/lang/IllegalArgumentException"), ("java/util/NoSuchElementException", "java/lang/UnsupportedOperationException"), ("java/util/NoSuchElementException", "java/lang/IndexOutOfBoundsException"), ("java/util/NoSuchElementException", "java/lang/IllegalStateException"), ("java/lang/IllegalStateException", "java/lang/IllegalArgumentException"), ("java/lang/IllegalStateException", "java/lang/UnsupportedOperationException"), ("java/lang/IllegalStateException", "java/lang/IndexOutOfBoundsException"), ("java/lang/IllegalStateException", "java/util/NoSuchElementException")]
abbrev NS : Nat := 75
def cC (c : Nat) : String := match c with
  | 0 => RX0
  | 1 => RX1
  | 2 => RX2
  | 3 => RX3
  | 4 => RX4
  | 5 => RX5
  | 6 => RX6
  | 7 => RX7
  | 8 => RX8
  | 9 => RX9
  | 10 => RX11
  | _ => RX12
def cT (c : Nat) : u_T := match c with
  | 0 => TX0
  | 1 => TX1
  | 2 => TX2
  | 3 => TX3
  | 4 => TX4
  | 5 => TX5
  | 6 => TX6
  | 7 => TX7
  | 8 => TX8
  | 9 => TX9
  | 10 => TX11
  | _ => TX12
def cN (c : Nat) : Nat := match c with
  | 0 => 4
  | 1 => 5
  | 2 => 6
  | 3 => 15
  | 4 => 7
  | 5 => 9
  | 6 => 6
  | 7 => 3
  | 8 => 5
  | 9 => 4
  | 10 => 17
  | _ => 22
def fT (c : Nat) : Nat → FieldType := match c with
  | 0 => tyX0
  | 1 => tyX1
  | 2 => tyX2
  | 3 => tyX3
  | 4 => tyX4
  | 5 => tyX5
  | 6 => tyX6
  | 7 => tyX7
  | 8 => tyX8
  | 9 => tyX9
  | 10 => tyX11
  | _ => tyX12
/-- a field that holds a reference -/
def isR (c k : Nat) : Bool := match fT c k with
  | .int => false
  | .boolean => false
  | _ => true
/-- what is known of a class -/
def CF (c : Nat) : Prop := vwCl[c]? = some (cC c, cT c, cN c) ∧ (∀ w ∈ u_ws (cC c) (cT c) (cN c), w ∈ gW) ∧ (∀ k, k < cN c → parseFieldDescriptor (cT c k).2.2.1 = some (fT c k)) ∧ (∀ a, a < cN c → ∀ b, b < cN c → a ≠ b → (cT c a).2.1 ≠ (cT c b).2.1) ∧ Cond.instantiable (cC c) (cN c) ∈ gW ∧ Cond.initialized (cC c) ∈ gW
theorem uw0 : ∀ w ∈ u_ws (cC 0) (cT 0) (cN 0), w ∈ gW := by
  intro w hw
  obtain ⟨k, hk, rfl⟩ := List.mem_map.mp hw
  have hk : k < 4 := List.mem_range.mp hk
  match k, hk with
  | 0, _ => exact w_222
  | 1, _ => exact w_224
  | 2, _ => exact w_226
  | 3, _ => exact w_228
  | n + 4, h => exact absurd h (by omega)
theorem cf0 : CF 0 := ⟨rfl, uw0, tyX0_ok, nmX0, w_206, w_6⟩
theorem uw1 : ∀ w ∈ u_ws (cC 1) (cT 1) (cN 1), w ∈ gW := by
  intro w hw
  obtain ⟨k, hk, rfl⟩ := List.mem_map.mp hw
  have hk : k < 5 := List.mem_range.mp hk
  match k, hk with
  | 0, _ => exact w_67
  | 1, _ => exact w_69
  | 2, _ => exact w_71
  | 3, _ => exact w_73
  | 4, _ => exact w_75
  | n + 5, h => exact absurd h (by omega)
theorem cf1 : CF 1 := ⟨rfl, uw1, tyX1_ok, nmX1, w_44, w_3⟩
theorem uw2 : ∀ w ∈ u_ws (cC 2) (cT 2) (cN 2), w ∈ gW := by
  intro w hw
  obtain ⟨k, hk, rfl⟩ := List.mem_map.mp hw
  have hk : k < 6 := List.mem_range.mp hk
  match k, hk with
  | 0, _ => exact w_355
  | 1, _ => exact w_357
  | 2, _ => exact w_359
  | 3, _ => exact w_361
  | 4, _ => exact w_363
  | 5, _ => exact w_365
  | n + 6, h => exact absurd h (by omega)
theorem cf2 : CF 2 := ⟨rfl, uw2, tyX2_ok, nmX2, w_343, w_12⟩
theorem uw3 : ∀ w ∈ u_ws (cC 3) (cT 3) (cN 3), w ∈ gW := by
  intro w hw
  obtain ⟨k, hk, rfl⟩ := List.mem_map.mp hw
  have hk : k < 15 := List.mem_range.mp hk
  match k, hk with
  | 0, _ => exact w_128
  | 1, _ => exact w_130
  | 2, _ => exact w_132
  | 3, _ => exact w_134
  | 4, _ => exact w_136
  | 5, _ => exact w_138
  | 6, _ => exact w_140
  | 7, _ => exact w_142
  | 8, _ => exact w_144
  | 9, _ => exact w_146
  | 10, _ => exact w_148
  | 11, _ => exact w_150
  | 12, _ => exact w_152
  | 13, _ => exact w_154
  | 14, _ => exact w_156
  | n + 15, h => exact absurd h (by omega)
theorem cf3 : CF 3 := ⟨rfl, uw3, tyX3_ok, nmX3, w_38, w_2⟩
theorem uw4 : ∀ w ∈ u_ws (cC 4) (cT 4) (cN 4), w ∈ gW := by
  intro w hw
  obtain ⟨k, hk, rfl⟩ := List.mem_map.mp hw
  have hk : k < 7 := List.mem_range.mp hk
  match k, hk with
  | 0, _ => exact w_173
  | 1, _ => exact w_175
  | 2, _ => exact w_177
  | 3, _ => exact w_179
  | 4, _ => exact w_181
  | 5, _ => exact w_183
  | 6, _ => exact w_185
  | n + 7, h => exact absurd h (by omega)
theorem cf4 : CF 4 := ⟨rfl, uw4, tyX4_ok, nmX4, w_160, w_4⟩
theorem uw5 : ∀ w ∈ u_ws (cC 5) (cT 5) (cN 5), w ∈ gW := by
  intro w hw
  obtain ⟨k, hk, rfl⟩ := List.mem_map.mp hw
  have hk : k < 9 := List.mem_range.mp hk
  match k, hk with
  | 0, _ => exact w_311
  | 1, _ => exact w_312
  | 2, _ => exact w_313
  | 3, _ => exact w_314
  | 4, _ => exact w_315
  | 5, _ => exact w_303
  | 6, _ => exact w_305
  | 7, _ => exact w_307
  | 8, _ => exact w_309
  | n + 9, h => exact absurd h (by omega)
theorem cf5 : CF 5 := ⟨rfl, uw5, tyX5_ok, nmX5, w_291, w_10⟩
theorem uw6 : ∀ w ∈ u_ws (cC 6) (cT 6) (cN 6), w ∈ gW := by
  intro w hw
  obtain ⟨k, hk, rfl⟩ := List.mem_map.mp hw
  have hk : k < 6 := List.mem_range.mp hk
  match k, hk with
  | 0, _ => exact w_279
  | 1, _ => exact w_281
  | 2, _ => exact w_283
  | 3, _ => exact w_285
  | 4, _ => exact w_287
  | 5, _ => exact w_277
  | n + 6, h => exact absurd h (by omega)
theorem cf6 : CF 6 := ⟨rfl, uw6, tyX6_ok, nmX6, w_260, w_9⟩
theorem uw7 : ∀ w ∈ u_ws (cC 7) (cT 7) (cN 7), w ∈ gW := by
  intro w hw
  obtain ⟨k, hk, rfl⟩ := List.mem_map.mp hw
  have hk : k < 3 := List.mem_range.mp hk
  match k, hk with
  | 0, _ => exact w_198
  | 1, _ => exact w_200
  | 2, _ => exact w_202
  | n + 3, h => exact absurd h (by omega)
theorem cf7 : CF 7 := ⟨rfl, uw7, tyX7_ok, nmX7, w_189, w_5⟩
theorem uw8 : ∀ w ∈ u_ws (cC 8) (cT 8) (cN 8), w ∈ gW := by
  intro w hw
  obtain ⟨k, hk, rfl⟩ := List.mem_map.mp hw
  have hk : k < 5 := List.mem_range.mp hk
  match k, hk with
  | 0, _ => exact w_331
  | 1, _ => exact w_333
  | 2, _ => exact w_335
  | 3, _ => exact w_337
  | 4, _ => exact w_339
  | n + 5, h => exact absurd h (by omega)
theorem cf8 : CF 8 := ⟨rfl, uw8, tyX8_ok, nmX8, w_318, w_11⟩
theorem uw9 : ∀ w ∈ u_ws (cC 9) (cT 9) (cN 9), w ∈ gW := by
  intro w hw
  obtain ⟨k, hk, rfl⟩ := List.mem_map.mp hw
  have hk : k < 4 := List.mem_range.mp hk
  match k, hk with
  | 0, _ => exact w_250
  | 1, _ => exact w_252
  | 2, _ => exact w_254
  | 3, _ => exact w_256
  | n + 4, h => exact absurd h (by omega)
theorem cf9 : CF 9 := ⟨rfl, uw9, tyX9_ok, nmX9, w_232, w_7⟩
theorem uw10 : ∀ w ∈ u_ws (cC 10) (cT 10) (cN 10), w ∈ gW := by
  intro w hw
  obtain ⟨k, hk, rfl⟩ := List.mem_map.mp hw
  have hk : k < 17 := List.mem_range.mp hk
  match k, hk with
  | 0, _ => exact w_385
  | 1, _ => exact w_387
  | 2, _ => exact w_389
  | 3, _ => exact w_391
  | 4, _ => exact w_393
  | 5, _ => exact w_395
  | 6, _ => exact w_397
  | 7, _ => exact w_399
  | 8, _ => exact w_401
  | 9, _ => exact w_403
  | 10, _ => exact w_405
  | 11, _ => exact w_407
  | 12, _ => exact w_409
  | 13, _ => exact w_411
  | 14, _ => exact w_413
  | 15, _ => exact w_415
  | 16, _ => exact w_417
  | n + 17, h => exact absurd h (by omega)
theorem cf10 : CF 10 := ⟨rfl, uw10, tyX11_ok, nmX11, w_30, w_1⟩
theorem uw11 : ∀ w ∈ u_ws (cC 11) (cT 11) (cN 11), w ∈ gW := by
  intro w hw
  obtain ⟨k, hk, rfl⟩ := List.mem_map.mp hw
  have hk : k < 22 := List.mem_range.mp hk
  match k, hk with
  | 0, _ => exact w_1398
  | 1, _ => exact w_1400
  | 2, _ => exact w_1402
  | 3, _ => exact w_1404
  | 4, _ => exact w_1406
  | 5, _ => exact w_1408
  | 6, _ => exact w_1410
  | 7, _ => exact w_1412
  | 8, _ => exact w_1414
  | 9, _ => exact w_1416
  | 10, _ => exact w_1418
  | 11, _ => exact w_1420
  | 12, _ => exact w_1422
  | 13, _ => exact w_1424
  | 14, _ => exact w_1426
  | 15, _ => exact w_1428
  | 16, _ => exact w_1430
  | 17, _ => exact w_1432
  | 18, _ => exact w_1434
  | 19, _ => exact w_1436
  | 20, _ => exact w_1438
  | 21, _ => exact w_1440
  | n + 22, h => exact absurd h (by omega)
theorem cf11 : CF 11 := ⟨rfl, uw11, tyX12_ok, nmX12, w_1371, w_13⟩
