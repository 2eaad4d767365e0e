def T_0 : u_T := fun k => match k with
  | 0 => ("PaletteFrames$Numbers", "items", "[I", true)
  | _ => ("PaletteFrames$Numbers", "size", "I", false)
def t_0 : Nat → FieldType := fun k => match k with
  | 0 => .array .int
  | _ => .int
theorem nm_0 : ∀ a, a < 2 → ∀ b, b < 2 → a ≠ b → (T_0 a).2.1 ≠ (T_0 b).2.1 := by decide +kernel
theorem ty_0 : ∀ k, k < 2 → parseFieldDescriptor (T_0 k).2.2.1 = some (t_0 k) := by decide +kernel
def T_1 : u_T := fun k => match k with
  | 0 => ("PaletteFrames$Width", "symbolBits", "I", true)
  | 1 => ("PaletteFrames$Width", "end", "I", true)
  | 2 => ("PaletteFrames$Width", "bits", "I", false)
  | _ => ("PaletteFrames$Width", "codes", "I", false)
def t_1 : Nat → FieldType := fun k => match k with
  | 0 => .int
  | 1 => .int
  | 2 => .int
  | _ => .int
theorem nm_1 : ∀ a, a < 4 → ∀ b, b < 4 → a ≠ b → (T_1 a).2.1 ≠ (T_1 b).2.1 := by decide +kernel
theorem ty_1 : ∀ k, k < 4 → parseFieldDescriptor (T_1 k).2.2.1 = some (t_1 k) := by decide +kernel
def T_2 : u_T := fun k => match k with
  | 0 => ("PaletteFrames$Strings", "end", "I", true)
  | 1 => ("PaletteFrames$Strings", "slots", "[I", true)
  | 2 => ("PaletteFrames$Strings", "keys", "[I", true)
  | 3 => ("PaletteFrames$Strings", "slotOf", "[I", true)
  | _ => ("PaletteFrames$Strings", "last", "I", false)
def t_2 : Nat → FieldType := fun k => match k with
  | 0 => .int
  | 1 => .array .int
  | 2 => .array .int
  | 3 => .array .int
  | _ => .int
theorem nm_2 : ∀ a, a < 5 → ∀ b, b < 5 → a ≠ b → (T_2 a).2.1 ≠ (T_2 b).2.1 := by decide +kernel
theorem ty_2 : ∀ k, k < 5 → parseFieldDescriptor (T_2 k).2.2.1 = some (t_2 k) := by decide +kernel
def T_3 : u_T := fun k => match k with
  | 0 => ("PaletteFrames$Coder", "clearCode", "I", true)
  | 1 => ("PaletteFrames$Coder", "endCode", "I", true)
  | 2 => ("PaletteFrames$Coder", "width", "LPaletteFrames$Width;", true)
  | 3 => ("PaletteFrames$Coder", "strings", "LPaletteFrames$Strings;", true)
  | 4 => ("PaletteFrames$Coder", "bytes", "LPaletteFrames$Numbers;", true)
  | 5 => ("PaletteFrames$Coder", "codes", "I", false)
  | 6 => ("PaletteFrames$Coder", "clears", "I", false)
  | 7 => ("PaletteFrames$Coder", "lastBits", "I", false)
  | 8 => ("PaletteFrames$Coder", "held", "I", false)
  | 9 => ("PaletteFrames$Coder", "heldBits", "I", false)
  | 10 => ("PaletteFrames$Coder", "lookCodes", "I", false)
  | _ => ("PaletteFrames$Coder", "lookSymbols", "I", false)
def t_3 : Nat → FieldType := fun k => match k with
  | 0 => .int
  | 1 => .int
  | 2 => .object "PaletteFrames$Width"
  | 3 => .object "PaletteFrames$Strings"
  | 4 => .object "PaletteFrames$Numbers"
  | 5 => .int
  | 6 => .int
  | 7 => .int
  | 8 => .int
  | 9 => .int
  | 10 => .int
  | _ => .int
theorem nm_3 : ∀ a, a < 12 → ∀ b, b < 12 → a ≠ b → (T_3 a).2.1 ≠ (T_3 b).2.1 := by decide +kernel
theorem ty_3 : ∀ k, k < 12 → parseFieldDescriptor (T_3 k).2.2.1 = some (t_3 k) := by decide +kernel
def T_4 : u_T := fun k => match k with
  | 0 => ("PaletteFrames$Reader", "clearCode", "I", true)
  | 1 => ("PaletteFrames$Reader", "endCode", "I", true)
  | 2 => ("PaletteFrames$Reader", "width", "LPaletteFrames$Width;", true)
  | 3 => ("PaletteFrames$Reader", "symbols", "LPaletteFrames$Numbers;", true)
  | 4 => ("PaletteFrames$Reader", "begins", "[I", true)
  | 5 => ("PaletteFrames$Reader", "lengths", "[I", true)
  | _ => ("PaletteFrames$Reader", "last", "I", false)
def t_4 : Nat → FieldType := fun k => match k with
  | 0 => .int
  | 1 => .int
  | 2 => .object "PaletteFrames$Width"
  | 3 => .object "PaletteFrames$Numbers"
  | 4 => .array .int
  | 5 => .array .int
  | _ => .int
theorem nm_4 : ∀ a, a < 7 → ∀ b, b < 7 → a ≠ b → (T_4 a).2.1 ≠ (T_4 b).2.1 := by decide +kernel
theorem ty_4 : ∀ k, k < 7 → parseFieldDescriptor (T_4 k).2.2.1 = some (t_4 k) := by decide +kernel
def T_5 : u_T := fun k => match k with
  | _ => ("PaletteFrames$Palette", "colours", "[I", true)
def t_5 : Nat → FieldType := fun k => match k with
  | _ => .array .int
theorem nm_5 : ∀ a, a < 1 → ∀ b, b < 1 → a ≠ b → (T_5 a).2.1 ≠ (T_5 b).2.1 := by decide +kernel
theorem ty_5 : ∀ k, k < 1 → parseFieldDescriptor (T_5 k).2.2.1 = some (t_5 k) := by decide +kernel
def T_6 : u_T := fun k => match k with
  | 0 => ("PaletteFrames$Frame", "symbols", "[I", true)
  | 1 => ("PaletteFrames$Frame", "palette", "LPaletteFrames$Palette;", true)
  | 2 => ("PaletteFrames$Frame", "left", "I", false)
  | 3 => ("PaletteFrames$Frame", "top", "I", false)
  | 4 => ("PaletteFrames$Frame", "width", "I", false)
  | 5 => ("PaletteFrames$Frame", "height", "I", false)
  | 6 => ("PaletteFrames$Frame", "end", "I", false)
  | 7 => ("PaletteFrames$Frame", "delay", "I", false)
  | _ => ("PaletteFrames$Frame", "clearThrough", "I", false)
def t_6 : Nat → FieldType := fun k => match k with
  | 0 => .array .int
  | 1 => .object "PaletteFrames$Palette"
  | 2 => .int
  | 3 => .int
  | 4 => .int
  | 5 => .int
  | 6 => .int
  | 7 => .int
  | _ => .int
theorem nm_6 : ∀ a, a < 9 → ∀ b, b < 9 → a ≠ b → (T_6 a).2.1 ≠ (T_6 b).2.1 := by decide +kernel
theorem ty_6 : ∀ k, k < 9 → parseFieldDescriptor (T_6 k).2.2.1 = some (t_6 k) := by decide +kernel
def T_7 : u_T := fun k => match k with
  | 0 => ("PaletteFrames$Screen", "frames", "[LPaletteFrames$Frame;", true)
  | 1 => ("PaletteFrames$Screen", "palette", "LPaletteFrames$Palette;", true)
  | _ => ("PaletteFrames$Screen", "count", "I", false)
def t_7 : Nat → FieldType := fun k => match k with
  | 0 => .array (.object "PaletteFrames$Frame")
  | 1 => .object "PaletteFrames$Palette"
  | _ => .int
theorem nm_7 : ∀ a, a < 3 → ∀ b, b < 3 → a ≠ b → (T_7 a).2.1 ≠ (T_7 b).2.1 := by decide +kernel
theorem ty_7 : ∀ k, k < 3 → parseFieldDescriptor (T_7 k).2.2.1 = some (t_7 k) := by decide +kernel
def T_8 : u_T := fun k => match k with
  | 0 => ("PaletteFrames", "symbolBits", "I", true)
  | 1 => ("PaletteFrames", "row", "LPaletteFrames$Numbers;", true)
  | 2 => ("PaletteFrames", "waiting", "LPaletteFrames$Numbers;", true)
  | 3 => ("PaletteFrames", "coder", "LPaletteFrames$Coder;", true)
  | 4 => ("PaletteFrames", "reader", "LPaletteFrames$Reader;", true)
  | 5 => ("PaletteFrames", "screen", "LPaletteFrames$Screen;", true)
  | _ => ("PaletteFrames", "rule", "I", false)
def t_8 : Nat → FieldType := fun k => match k with
  | 0 => .int
  | 1 => .object "PaletteFrames$Numbers"
  | 2 => .object "PaletteFrames$Numbers"
  | 3 => .object "PaletteFrames$Coder"
  | 4 => .object "PaletteFrames$Reader"
  | 5 => .object "PaletteFrames$Screen"
  | _ => .int
theorem nm_8 : ∀ a, a < 7 → ∀ b, b < 7 → a ≠ b → (T_8 a).2.1 ≠ (T_8 b).2.1 := by decide +kernel
theorem ty_8 : ∀ k, k < 7 → parseFieldDescriptor (T_8 k).2.2.1 = some (t_8 k) := by decide +kernel
def T_9 : u_T := fun k => match k with
  | 0 => ("PaletteFramesModel", "least", "I", true)
  | 1 => ("PaletteFramesModel", "clear", "I", true)
  | 2 => ("PaletteFramesModel", "end", "I", true)
  | 3 => ("PaletteFramesModel", "code", "I", false)
  | 4 => ("PaletteFramesModel", "rule", "I", false)
  | 5 => ("PaletteFramesModel", "rowSize", "I", false)
  | 6 => ("PaletteFramesModel", "row", "[I", true)
  | 7 => ("PaletteFramesModel", "codedSize", "I", false)
  | 8 => ("PaletteFramesModel", "coded", "[B", true)
  | 9 => ("PaletteFramesModel", "codedTold", "[I", true)
  | 10 => ("PaletteFramesModel", "fedSize", "I", false)
  | 11 => ("PaletteFramesModel", "fed", "[B", true)
  | 12 => ("PaletteFramesModel", "readSize", "I", false)
  | 13 => ("PaletteFramesModel", "read", "[I", true)
  | 14 => ("PaletteFramesModel", "entries", "I", false)
  | 15 => ("PaletteFramesModel", "prefixes", "[I", true)
  | 16 => ("PaletteFramesModel", "lasts", "[I", true)
  | 17 => ("PaletteFramesModel", "lengths", "[I", true)
  | 18 => ("PaletteFramesModel", "children", "[I", true)
  | 19 => ("PaletteFramesModel", "siblings", "[I", true)
  | 20 => ("PaletteFramesModel", "bitAt", "I", false)
  | 21 => ("PaletteFramesModel", "width", "I", false)
  | 22 => ("PaletteFramesModel", "since", "I", false)
  | 23 => ("PaletteFramesModel", "frames", "I", false)
  | 24 => ("PaletteFramesModel", "xs", "[I", true)
  | 25 => ("PaletteFramesModel", "ys", "[I", true)
  | 26 => ("PaletteFramesModel", "widths", "[I", true)
  | 27 => ("PaletteFramesModel", "heights", "[I", true)
  | 28 => ("PaletteFramesModel", "ends", "[I", true)
  | 29 => ("PaletteFramesModel", "delays", "[I", true)
  | 30 => ("PaletteFramesModel", "throughs", "[I", true)
  | 31 => ("PaletteFramesModel", "symbols", "[I", true)
  | 32 => ("PaletteFramesModel", "colours", "[I", true)
  | 33 => ("PaletteFramesModel", "shownFrames", "[I", true)
  | 34 => ("PaletteFramesModel", "shownSymbols", "[I", true)
  | 35 => ("PaletteFramesModel", "keptFrames", "[I", true)
  | _ => ("PaletteFramesModel", "keptSymbols", "[I", true)
def t_9 : Nat → FieldType := fun k => match k with
  | 0 => .int
  | 1 => .int
  | 2 => .int
  | 3 => .int
  | 4 => .int
  | 5 => .int
  | 6 => .array .int
  | 7 => .int
  | 8 => .array .byte
  | 9 => .array .int
  | 10 => .int
  | 11 => .array .byte
  | 12 => .int
  | 13 => .array .int
  | 14 => .int
  | 15 => .array .int
  | 16 => .array .int
  | 17 => .array .int
  | 18 => .array .int
  | 19 => .array .int
  | 20 => .int
  | 21 => .int
  | 22 => .int
  | 23 => .int
  | 24 => .array .int
  | 25 => .array .int
  | 26 => .array .int
  | 27 => .array .int
  | 28 => .array .int
  | 29 => .array .int
  | 30 => .array .int
  | 31 => .array .int
  | 32 => .array .int
  | 33 => .array .int
  | 34 => .array .int
  | 35 => .array .int
  | _ => .array .int
theorem nm_9 : ∀ a, a < 37 → ∀ b, b < 37 → a ≠ b → (T_9 a).2.1 ≠ (T_9 b).2.1 := by decide +kernel
theorem ty_9 : ∀ k, k < 37 → parseFieldDescriptor (T_9 k).2.2.1 = some (t_9 k) := by decide +kernel
/-- the classes of the world, by their places -/
def xCl : List vw_C := [("PaletteFrames$Numbers", T_0, 2), ("PaletteFrames$Width", T_1, 4), ("PaletteFrames$Strings", T_2, 5), ("PaletteFrames$Coder", T_3, 12), ("PaletteFrames$Reader", T_4, 7), ("PaletteFrames$Palette", T_5, 1), ("PaletteFrames$Frame", T_6, 9), ("PaletteFrames$Screen", T_7, 3), ("PaletteFrames", T_8, 7), ("PaletteFramesModel", T_9, 37)]
/-- how many cells the world has, when all is made -/
def xKK : Nat := 96
def xTy (dA : Nat → ClassId) : List (ClassId × FieldType) := [(dA 0, .int), (dA 1, .long), (dA 2, .object "PaletteFrames$Frame"), (dA 3, .byte)]
/-- the words that stay true all through -/
def xGT : List Cond := lw_tbl.filter goodWord
theorem xGT_good : ∀ w ∈ xGT, (w.onTables && w.keeps) = true ∨ ∃ ty, w = .arrayClass ty := fun w h => good_of_word (List.mem_filter.mp h).2
theorem xGT_of {w : Cond} (i : Nat) (h : lw_tbl[i]? = some w) (hg : goodWord w = true) : w ∈ xGT := List.mem_filter.mpr ⟨List.mem_of_getElem? h, hg⟩
def xNT : List Cond := []
def xNW (U : State) : Prop := ∀ w ∈ xNT, va_Nw w U
theorem xNT_tab : ∀ w ∈ xNT, w.onTables = true := fun _ h => by cases h
theorem xNT_warm {s U : State} (_hW : s.WarmedH U.vm) : ∀ w ∈ xNT, va_Nw w s → va_Nw w U := fun _ h => by cases h
