-- the classes: fields in the order of the slots
def R_Blend : String := "GainTables$Blend"
def R_Borders : String := "GainTables$Borders"
def R_History : String := "GainTables$History"
def R_Path : String := "GainTables$Path"
def R_State : String := "GainTables$State"
def R_Table : String := "GainTables$Table"
def R_Text : String := "GainTables$Text"
def R_GT : String := "GainTables"
def T_Blend : u_T := fun k => match k with
  | 0 => ("GainTables$Blend", "low", "I", false)
  | 1 => ("GainTables$Blend", "high", "I", false)
  | 2 => ("GainTables$Blend", "numerator", "I", false)
  | _ => ("GainTables$Blend", "denominator", "I", false)
def y_Blend : Nat → FieldType := fun k => match k with
  | 0 => .int
  | 1 => .int
  | 2 => .int
  | _ => .int
theorem nm_Blend : ∀ a, a < 4 → ∀ b, b < 4 → a ≠ b → (T_Blend a).2.1 ≠ (T_Blend b).2.1 := by decide +kernel
theorem ty_Blend : ∀ k, k < 4 → parseFieldDescriptor (T_Blend k).2.2.1 = some (y_Blend k) := by decide +kernel
def T_Borders : u_T := fun k => match k with
  | 0 => ("GainTables$Borders", "size", "I", false)
  | 1 => ("GainTables$Borders", "positions", "[I", true)
  | 2 => ("GainTables$Borders", "kinds", "[I", true)
  | _ => ("GainTables$Borders", "reaches", "[I", true)
def y_Borders : Nat → FieldType := fun k => match k with
  | 0 => .int
  | 1 => .array .int
  | 2 => .array .int
  | _ => .array .int
theorem nm_Borders : ∀ a, a < 4 → ∀ b, b < 4 → a ≠ b → (T_Borders a).2.1 ≠ (T_Borders b).2.1 := by decide +kernel
theorem ty_Borders : ∀ k, k < 4 → parseFieldDescriptor (T_Borders k).2.2.1 = some (y_Borders k) := by decide +kernel
def T_History : u_T := fun k => match k with
  | 0 => ("GainTables$History", "size", "I", false)
  | 1 => ("GainTables$History", "first", "I", false)
  | _ => ("GainTables$History", "states", "[LGainTables$State;", true)
def y_History : Nat → FieldType := fun k => match k with
  | 0 => .int
  | 1 => .int
  | _ => .array (.object "GainTables$State")
theorem nm_History : ∀ a, a < 3 → ∀ b, b < 3 → a ≠ b → (T_History a).2.1 ≠ (T_History b).2.1 := by decide +kernel
theorem ty_History : ∀ k, k < 3 → parseFieldDescriptor (T_History k).2.2.1 = some (y_History k) := by decide +kernel
def T_Path : u_T := fun k => match k with
  | 0 => ("GainTables$Path", "size", "I", false)
  | 1 => ("GainTables$Path", "latest", "I", false)
  | _ => ("GainTables$Path", "parts", "[I", true)
def y_Path : Nat → FieldType := fun k => match k with
  | 0 => .int
  | 1 => .int
  | _ => .array .int
theorem nm_Path : ∀ a, a < 3 → ∀ b, b < 3 → a ≠ b → (T_Path a).2.1 ≠ (T_Path b).2.1 := by decide +kernel
theorem ty_Path : ∀ k, k < 3 → parseFieldDescriptor (T_Path k).2.2.1 = some (y_Path k) := by decide +kernel
def T_State : u_T := fun k => match k with
  | 0 => ("GainTables$State", "table", "LGainTables$Table;", true)
  | 1 => ("GainTables$State", "firstSnapshot", "LGainTables$Table;", true)
  | 2 => ("GainTables$State", "secondSnapshot", "LGainTables$Table;", true)
  | 3 => ("GainTables$State", "thirdSnapshot", "LGainTables$Table;", true)
  | 4 => ("GainTables$State", "taken", "[Z", true)
  | 5 => ("GainTables$State", "point", "[I", true)
  | 6 => ("GainTables$State", "zones", "[I", true)
  | 7 => ("GainTables$State", "margin", "I", false)
  | 8 => ("GainTables$State", "path", "LGainTables$Path;", true)
  | 9 => ("GainTables$State", "ignoredMoves", "I", false)
  | 10 => ("GainTables$State", "carriedOutMoves", "I", false)
  | 11 => ("GainTables$State", "steps", "[I", true)
  | 12 => ("GainTables$State", "budgets", "[I", true)
  | 13 => ("GainTables$State", "edits", "[I", true)
  | _ => ("GainTables$State", "accounts", "[I", true)
def y_State : Nat → FieldType := fun k => match k with
  | 0 => .object "GainTables$Table"
  | 1 => .object "GainTables$Table"
  | 2 => .object "GainTables$Table"
  | 3 => .object "GainTables$Table"
  | 4 => .array .boolean
  | 5 => .array .int
  | 6 => .array .int
  | 7 => .int
  | 8 => .object "GainTables$Path"
  | 9 => .int
  | 10 => .int
  | 11 => .array .int
  | 12 => .array .int
  | 13 => .array .int
  | _ => .array .int
theorem nm_State : ∀ a, a < 15 → ∀ b, b < 15 → a ≠ b → (T_State a).2.1 ≠ (T_State b).2.1 := by decide +kernel
theorem ty_State : ∀ k, k < 15 → parseFieldDescriptor (T_State k).2.2.1 = some (y_State k) := by decide +kernel
def T_Table : u_T := fun k => match k with
  | 0 => ("GainTables$Table", "columns", "LGainTables$Borders;", true)
  | 1 => ("GainTables$Table", "rows", "LGainTables$Borders;", true)
  | 2 => ("GainTables$Table", "gains", "[I", true)
  | _ => ("GainTables$Table", "locks", "[I", true)
def y_Table : Nat → FieldType := fun k => match k with
  | 0 => .object "GainTables$Borders"
  | 1 => .object "GainTables$Borders"
  | 2 => .array .int
  | _ => .array .int
theorem nm_Table : ∀ a, a < 4 → ∀ b, b < 4 → a ≠ b → (T_Table a).2.1 ≠ (T_Table b).2.1 := by decide +kernel
theorem ty_Table : ∀ k, k < 4 → parseFieldDescriptor (T_Table k).2.2.1 = some (y_Table k) := by decide +kernel
def T_Text : u_T := fun k => match k with
  | 0 => ("GainTables$Text", "length", "I", false)
  | 1 => ("GainTables$Text", "error", "I", false)
  | 2 => ("GainTables$Text", "next", "I", false)
  | _ => ("GainTables$Text", "characters", "[C", true)
def y_Text : Nat → FieldType := fun k => match k with
  | 0 => .int
  | 1 => .int
  | 2 => .int
  | _ => .array .char
theorem nm_Text : ∀ a, a < 4 → ∀ b, b < 4 → a ≠ b → (T_Text a).2.1 ≠ (T_Text b).2.1 := by decide +kernel
theorem ty_Text : ∀ k, k < 4 → parseFieldDescriptor (T_Text k).2.2.1 = some (y_Text k) := by decide +kernel
def T_GT : u_T := fun k => match k with
  | 0 => ("GainTables", "now", "LGainTables$State;", true)
  | 1 => ("GainTables", "history", "LGainTables$History;", true)
  | 2 => ("GainTables", "text", "LGainTables$Text;", true)
  | 3 => ("GainTables", "draft", "LGainTables$Table;", true)
  | 4 => ("GainTables", "trial", "LGainTables$Borders;", true)
  | 5 => ("GainTables", "across", "LGainTables$Blend;", true)
  | 6 => ("GainTables", "along", "LGainTables$Blend;", true)
  | 7 => ("GainTables", "valuesAhead", "[I", true)
  | _ => ("GainTables", "valuesBehind", "[I", true)
def y_GT : Nat → FieldType := fun k => match k with
  | 0 => .object "GainTables$State"
  | 1 => .object "GainTables$History"
  | 2 => .object "GainTables$Text"
  | 3 => .object "GainTables$Table"
  | 4 => .object "GainTables$Borders"
  | 5 => .object "GainTables$Blend"
  | 6 => .object "GainTables$Blend"
  | 7 => .array .int
  | _ => .array .int
theorem nm_GT : ∀ a, a < 9 → ∀ b, b < 9 → a ≠ b → (T_GT a).2.1 ≠ (T_GT b).2.1 := by decide +kernel
theorem ty_GT : ∀ k, k < 9 → parseFieldDescriptor (T_GT k).2.2.1 = some (y_GT k) := by decide +kernel
abbrev ga_cl : List vw_C := [(R_Blend, T_Blend, 4), (R_Borders, T_Borders, 4), (R_History, T_History, 3), (R_Path, T_Path, 3), (R_State, T_State, 15), (R_Table, T_Table, 4), (R_Text, T_Text, 4), (R_GT, T_GT, 9)]
/-- the shapes of the cells: objects (class, fields: an int, or the cell that it names), arrays of numbers (kind, length), the one array of references -/
def ga_shl : List ga_Sh := [
  .inl (7, [some 1, some 55, some 327, some 329, some 340, some 344, some 345, some 346, some 347]),
  .inl (4, [some 2, some 13, some 24, some 35, some 46, some 47, some 48, none, some 49, none, none, some 51, some 52, some 53, some 54]),
  .inl (5, [some 3, some 7, some 11, some 12]),
  .inl (1, [none, some 4, some 5, some 6]),
  .inr (.inl (0, 6)),
  .inr (.inl (0, 6)),
  .inr (.inl (0, 6)),
  .inl (1, [none, some 8, some 9, some 10]),
  .inr (.inl (0, 6)),
  .inr (.inl (0, 6)),
  .inr (.inl (0, 6)),
  .inr (.inl (0, 147)),
  .inr (.inl (0, 49)),
  .inl (5, [some 14, some 18, some 22, some 23]),
  .inl (1, [none, some 15, some 16, some 17]),
  .inr (.inl (0, 6)),
  .inr (.inl (0, 6)),
  .inr (.inl (0, 6)),
  .inl (1, [none, some 19, some 20, some 21]),
  .inr (.inl (0, 6)),
  .inr (.inl (0, 6)),
  .inr (.inl (0, 6)),
  .inr (.inl (0, 147)),
  .inr (.inl (0, 49)),
  .inl (5, [some 25, some 29, some 33, some 34]),
  .inl (1, [none, some 26, some 27, some 28]),
  .inr (.inl (0, 6)),
  .inr (.inl (0, 6)),
  .inr (.inl (0, 6)),
  .inl (1, [none, some 30, some 31, some 32]),
  .inr (.inl (0, 6)),
  .inr (.inl (0, 6)),
  .inr (.inl (0, 6)),
  .inr (.inl (0, 147)),
  .inr (.inl (0, 49)),
  .inl (5, [some 36, some 40, some 44, some 45]),
  .inl (1, [none, some 37, some 38, some 39]),
  .inr (.inl (0, 6)),
  .inr (.inl (0, 6)),
  .inr (.inl (0, 6)),
  .inl (1, [none, some 41, some 42, some 43]),
  .inr (.inl (0, 6)),
  .inr (.inl (0, 6)),
  .inr (.inl (0, 6)),
  .inr (.inl (0, 147)),
  .inr (.inl (0, 49)),
  .inr (.inl (1, 3)),
  .inr (.inl (0, 2)),
  .inr (.inl (0, 2)),
  .inl (3, [none, none, some 50]),
  .inr (.inl (0, 160)),
  .inr (.inl (0, 3)),
  .inr (.inl (0, 3)),
  .inr (.inl (0, 3)),
  .inr (.inl (0, 4)),
  .inl (2, [none, none, some 56]),
  .inr (.inr [57, 111, 165, 219, 273]),
  .inl (4, [some 58, some 69, some 80, some 91, some 102, some 103, some 104, none, some 105, none, none, some 107, some 108, some 109, some 110]),
  .inl (5, [some 59, some 63, some 67, some 68]),
  .inl (1, [none, some 60, some 61, some 62]),
  .inr (.inl (0, 6)),
  .inr (.inl (0, 6)),
  .inr (.inl (0, 6)),
  .inl (1, [none, some 64, some 65, some 66]),
  .inr (.inl (0, 6)),
  .inr (.inl (0, 6)),
  .inr (.inl (0, 6)),
  .inr (.inl (0, 147)),
  .inr (.inl (0, 49)),
  .inl (5, [some 70, some 74, some 78, some 79]),
  .inl (1, [none, some 71, some 72, some 73]),
  .inr (.inl (0, 6)),
  .inr (.inl (0, 6)),
  .inr (.inl (0, 6)),
  .inl (1, [none, some 75, some 76, some 77]),
  .inr (.inl (0, 6)),
  .inr (.inl (0, 6)),
  .inr (.inl (0, 6)),
  .inr (.inl (0, 147)),
  .inr (.inl (0, 49)),
  .inl (5, [some 81, some 85, some 89, some 90]),
  .inl (1, [none, some 82, some 83, some 84]),
  .inr (.inl (0, 6)),
  .inr (.inl (0, 6)),
  .inr (.inl (0, 6)),
  .inl (1, [none, some 86, some 87, some 88]),
  .inr (.inl (0, 6)),
  .inr (.inl (0, 6)),
  .inr (.inl (0, 6)),
  .inr (.inl (0, 147)),
  .inr (.inl (0, 49)),
  .inl (5, [some 92, some 96, some 100, some 101]),
  .inl (1, [none, some 93, some 94, some 95]),
  .inr (.inl (0, 6)),
  .inr (.inl (0, 6)),
  .inr (.inl (0, 6)),
  .inl (1, [none, some 97, some 98, some 99]),
  .inr (.inl (0, 6)),
  .inr (.inl (0, 6)),
  .inr (.inl (0, 6)),
  .inr (.inl (0, 147)),
  .inr (.inl (0, 49)),
  .inr (.inl (1, 3)),
  .inr (.inl (0, 2)),
  .inr (.inl (0, 2)),
  .inl (3, [none, none, some 106]),
  .inr (.inl (0, 160)),
  .inr (.inl (0, 3)),
  .inr (.inl (0, 3)),
  .inr (.inl (0, 3)),
  .inr (.inl (0, 4)),
  .inl (4, [some 112, some 123, some 134, some 145, some 156, some 157, some 158, none, some 159, none, none, some 161, some 162, some 163, some 164]),
  .inl (5, [some 113, some 117, some 121, some 122]),
  .inl (1, [none, some 114, some 115, some 116]),
  .inr (.inl (0, 6)),
  .inr (.inl (0, 6)),
  .inr (.inl (0, 6)),
  .inl (1, [none, some 118, some 119, some 120]),
  .inr (.inl (0, 6)),
  .inr (.inl (0, 6)),
  .inr (.inl (0, 6)),
  .inr (.inl (0, 147)),
  .inr (.inl (0, 49)),
  .inl (5, [some 124, some 128, some 132, some 133]),
  .inl (1, [none, some 125, some 126, some 127]),
  .inr (.inl (0, 6)),
  .inr (.inl (0, 6)),
  .inr (.inl (0, 6)),
  .inl (1, [none, some 129, some 130, some 131]),
  .inr (.inl (0, 6)),
  .inr (.inl (0, 6)),
  .inr (.inl (0, 6)),
  .inr (.inl (0, 147)),
  .inr (.inl (0, 49)),
  .inl (5, [some 135, some 139, some 143, some 144]),
  .inl (1, [none, some 136, some 137, some 138]),
  .inr (.inl (0, 6)),
  .inr (.inl (0, 6)),
  .inr (.inl (0, 6)),
  .inl (1, [none, some 140, some 141, some 142]),
  .inr (.inl (0, 6)),
  .inr (.inl (0, 6)),
  .inr (.inl (0, 6)),
  .inr (.inl (0, 147)),
  .inr (.inl (0, 49)),
  .inl (5, [some 146, some 150, some 154, some 155]),
  .inl (1, [none, some 147, some 148, some 149]),
  .inr (.inl (0, 6)),
  .inr (.inl (0, 6)),
  .inr (.inl (0, 6)),
  .inl (1, [none, some 151, some 152, some 153]),
  .inr (.inl (0, 6)),
  .inr (.inl (0, 6)),
  .inr (.inl (0, 6)),
  .inr (.inl (0, 147)),
  .inr (.inl (0, 49)),
  .inr (.inl (1, 3)),
  .inr (.inl (0, 2)),
  .inr (.inl (0, 2)),
  .inl (3, [none, none, some 160]),
  .inr (.inl (0, 160)),
  .inr (.inl (0, 3)),
  .inr (.inl (0, 3)),
  .inr (.inl (0, 3)),
  .inr (.inl (0, 4)),
  .inl (4, [some 166, some 177, some 188, some 199, some 210, some 211, some 212, none, some 213, none, none, some 215, some 216, some 217, some 218]),
  .inl (5, [some 167, some 171, some 175, some 176]),
  .inl (1, [none, some 168, some 169, some 170]),
  .inr (.inl (0, 6)),
  .inr (.inl (0, 6)),
  .inr (.inl (0, 6)),
  .inl (1, [none, some 172, some 173, some 174]),
  .inr (.inl (0, 6)),
  .inr (.inl (0, 6)),
  .inr (.inl (0, 6)),
  .inr (.inl (0, 147)),
  .inr (.inl (0, 49)),
  .inl (5, [some 178, some 182, some 186, some 187]),
  .inl (1, [none, some 179, some 180, some 181]),
  .inr (.inl (0, 6)),
  .inr (.inl (0, 6)),
  .inr (.inl (0, 6)),
  .inl (1, [none, some 183, some 184, some 185]),
  .inr (.inl (0, 6)),
  .inr (.inl (0, 6)),
  .inr (.inl (0, 6)),
  .inr (.inl (0, 147)),
  .inr (.inl (0, 49)),
  .inl (5, [some 189, some 193, some 197, some 198]),
  .inl (1, [none, some 190, some 191, some 192]),
  .inr (.inl (0, 6)),
  .inr (.inl (0, 6)),
  .inr (.inl (0, 6)),
  .inl (1, [none, some 194, some 195, some 196]),
  .inr (.inl (0, 6)),
  .inr (.inl (0, 6)),
  .inr (.inl (0, 6)),
  .inr (.inl (0, 147)),
  .inr (.inl (0, 49)),
  .inl (5, [some 200, some 204, some 208, some 209]),
  .inl (1, [none, some 201, some 202, some 203]),
  .inr (.inl (0, 6)),
  .inr (.inl (0, 6)),
  .inr (.inl (0, 6)),
  .inl (1, [none, some 205, some 206, some 207]),
  .inr (.inl (0, 6)),
  .inr (.inl (0, 6)),
  .inr (.inl (0, 6)),
  .inr (.inl (0, 147)),
  .inr (.inl (0, 49)),
  .inr (.inl (1, 3)),
  .inr (.inl (0, 2)),
  .inr (.inl (0, 2)),
  .inl (3, [none, none, some 214]),
  .inr (.inl (0, 160)),
  .inr (.inl (0, 3)),
  .inr (.inl (0, 3)),
  .inr (.inl (0, 3)),
  .inr (.inl (0, 4)),
  .inl (4, [some 220, some 231, some 242, some 253, some 264, some 265, some 266, none, some 267, none, none, some 269, some 270, some 271, some 272]),
  .inl (5, [some 221, some 225, some 229, some 230]),
  .inl (1, [none, some 222, some 223, some 224]),
  .inr (.inl (0, 6)),
  .inr (.inl (0, 6)),
  .inr (.inl (0, 6)),
  .inl (1, [none, some 226, some 227, some 228]),
  .inr (.inl (0, 6)),
  .inr (.inl (0, 6)),
  .inr (.inl (0, 6)),
  .inr (.inl (0, 147)),
  .inr (.inl (0, 49)),
  .inl (5, [some 232, some 236, some 240, some 241]),
  .inl (1, [none, some 233, some 234, some 235]),
  .inr (.inl (0, 6)),
  .inr (.inl (0, 6)),
  .inr (.inl (0, 6)),
  .inl (1, [none, some 237, some 238, some 239]),
  .inr (.inl (0, 6)),
  .inr (.inl (0, 6)),
  .inr (.inl (0, 6)),
  .inr (.inl (0, 147)),
  .inr (.inl (0, 49)),
  .inl (5, [some 243, some 247, some 251, some 252]),
  .inl (1, [none, some 244, some 245, some 246]),
  .inr (.inl (0, 6)),
  .inr (.inl (0, 6)),
  .inr (.inl (0, 6)),
  .inl (1, [none, some 248, some 249, some 250]),
  .inr (.inl (0, 6)),
  .inr (.inl (0, 6)),
  .inr (.inl (0, 6)),
  .inr (.inl (0, 147)),
  .inr (.inl (0, 49)),
  .inl (5, [some 254, some 258, some 262, some 263]),
  .inl (1, [none, some 255, some 256, some 257]),
  .inr (.inl (0, 6)),
  .inr (.inl (0, 6)),
  .inr (.inl (0, 6)),
  .inl (1, [none, some 259, some 260, some 261]),
  .inr (.inl (0, 6)),
  .inr (.inl (0, 6)),
  .inr (.inl (0, 6)),
  .inr (.inl (0, 147)),
  .inr (.inl (0, 49)),
  .inr (.inl (1, 3)),
  .inr (.inl (0, 2)),
  .inr (.inl (0, 2)),
  .inl (3, [none, none, some 268]),
  .inr (.inl (0, 160)),
  .inr (.inl (0, 3)),
  .inr (.inl (0, 3)),
  .inr (.inl (0, 3)),
  .inr (.inl (0, 4)),
  .inl (4, [some 274, some 285, some 296, some 307, some 318, some 319, some 320, none, some 321, none, none, some 323, some 324, some 325, some 326]),
  .inl (5, [some 275, some 279, some 283, some 284]),
  .inl (1, [none, some 276, some 277, some 278]),
  .inr (.inl (0, 6)),
  .inr (.inl (0, 6)),
  .inr (.inl (0, 6)),
  .inl (1, [none, some 280, some 281, some 282]),
  .inr (.inl (0, 6)),
  .inr (.inl (0, 6)),
  .inr (.inl (0, 6)),
  .inr (.inl (0, 147)),
  .inr (.inl (0, 49)),
  .inl (5, [some 286, some 290, some 294, some 295]),
  .inl (1, [none, some 287, some 288, some 289]),
  .inr (.inl (0, 6)),
  .inr (.inl (0, 6)),
  .inr (.inl (0, 6)),
  .inl (1, [none, some 291, some 292, some 293]),
  .inr (.inl (0, 6)),
  .inr (.inl (0, 6)),
  .inr (.inl (0, 6)),
  .inr (.inl (0, 147)),
  .inr (.inl (0, 49)),
  .inl (5, [some 297, some 301, some 305, some 306]),
  .inl (1, [none, some 298, some 299, some 300]),
  .inr (.inl (0, 6)),
  .inr (.inl (0, 6)),
  .inr (.inl (0, 6)),
  .inl (1, [none, some 302, some 303, some 304]),
  .inr (.inl (0, 6)),
  .inr (.inl (0, 6)),
  .inr (.inl (0, 6)),
  .inr (.inl (0, 147)),
  .inr (.inl (0, 49)),
  .inl (5, [some 308, some 312, some 316, some 317]),
  .inl (1, [none, some 309, some 310, some 311]),
  .inr (.inl (0, 6)),
  .inr (.inl (0, 6)),
  .inr (.inl (0, 6)),
  .inl (1, [none, some 313, some 314, some 315]),
  .inr (.inl (0, 6)),
  .inr (.inl (0, 6)),
  .inr (.inl (0, 6)),
  .inr (.inl (0, 147)),
  .inr (.inl (0, 49)),
  .inr (.inl (1, 3)),
  .inr (.inl (0, 2)),
  .inr (.inl (0, 2)),
  .inl (3, [none, none, some 322]),
  .inr (.inl (0, 160)),
  .inr (.inl (0, 3)),
  .inr (.inl (0, 3)),
  .inr (.inl (0, 3)),
  .inr (.inl (0, 4)),
  .inl (6, [none, none, none, some 328]),
  .inr (.inl (2, 160)),
  .inl (5, [some 330, some 334, some 338, some 339]),
  .inl (1, [none, some 331, some 332, some 333]),
  .inr (.inl (0, 6)),
  .inr (.inl (0, 6)),
  .inr (.inl (0, 6)),
  .inl (1, [none, some 335, some 336, some 337]),
  .inr (.inl (0, 6)),
  .inr (.inl (0, 6)),
  .inr (.inl (0, 6)),
  .inr (.inl (0, 147)),
  .inr (.inl (0, 49)),
  .inl (1, [none, some 341, some 342, some 343]),
  .inr (.inl (0, 6)),
  .inr (.inl (0, 6)),
  .inr (.inl (0, 6)),
  .inl (0, [none, none, none, none]),
  .inl (0, [none, none, none, none]),
  .inr (.inl (0, 3)),
  .inr (.inl (0, 3))]
def ga_sh (k : Nat) : ga_Sh := ga_shl.getD k (.inr (.inl (0, 0)))
/-- the words that a callee may take over -/
def ga_T : List Cond := lw_tbl.filter goodWord
theorem ga_mem {w : Cond} (i : Nat) (h : lw_tbl[i]? = some w ∧ goodWord w = true) : w ∈ ga_T := List.mem_filter.mpr ⟨List.mem_of_getElem? h.1, h.2⟩
theorem ga_mems (ws : List Cond) (ps : List Nat) (hp : ws = ps.filterMap (fun i => lw_tbl[i]?) ∧ ws.all goodWord = true) : ∀ w ∈ ws, w ∈ ga_T := by
  intro w hw
  refine List.mem_filter.mpr ⟨?_, List.all_eq_true.mp hp.2 w hw⟩
  rw [hp.1] at hw
  obtain ⟨i, -, hi⟩ := List.mem_filterMap.mp hw
  exact List.mem_of_getElem? hi
theorem in_Blend : ∀ w ∈ u_ws R_Blend T_Blend 4, w ∈ ga_T := ga_mems _ [224, 226, 228, 230] (by decide +kernel)
theorem in_Borders : ∀ w ∈ u_ws R_Borders T_Borders 4, w ∈ ga_T := ga_mems _ [54, 56, 58, 60] (by decide +kernel)
theorem in_History : ∀ w ∈ u_ws R_History T_History 3, w ∈ ga_T := ga_mems _ [175, 177, 179] (by decide +kernel)
theorem in_Path : ∀ w ∈ u_ws R_Path T_Path 3, w ∈ ga_T := ga_mems _ [95, 97, 99] (by decide +kernel)
theorem in_State : ∀ w ∈ u_ws R_State T_State 15, w ∈ ga_T := ga_mems _ [131, 133, 135, 137, 139, 141, 143, 145, 147, 149, 151, 153, 155, 157, 159] (by decide +kernel)
theorem in_Table : ∀ w ∈ u_ws R_Table T_Table 4, w ∈ ga_T := ga_mems _ [76, 78, 80, 82] (by decide +kernel)
theorem in_Text : ∀ w ∈ u_ws R_Text T_Text 4, w ∈ ga_T := ga_mems _ [192, 194, 196, 198] (by decide +kernel)
theorem in_GT : ∀ w ∈ u_ws R_GT T_GT 9, w ∈ ga_T := ga_mems _ [242, 244, 246, 248, 250, 252, 254, 256, 258] (by decide +kernel)
-- the methods: name, bytes, locals, what they answer
abbrev mt_GT_init : ga_M := (⟨"GainTables", "<init>", "()V"⟩, prog_1_method_1_code, 1, none)
abbrev mt_State_init : ga_M := (⟨"GainTables$State", "<init>", "()V"⟩, prog_6_method_1_code, 1, none)
abbrev mt_Table_init : ga_M := (⟨"GainTables$Table", "<init>", "()V"⟩, prog_7_method_1_code, 1, none)
abbrev mt_Borders_init : ga_M := (⟨"GainTables$Borders", "<init>", "()V"⟩, prog_3_method_1_code, 1, none)
abbrev mt_Arr_fill : ga_M := (⟨"java/util/Arrays", "fill", "([II)V"⟩, prog_13_method_103_code, 4, none)
abbrev mt_Path_init : ga_M := (⟨"GainTables$Path", "<init>", "()V"⟩, prog_5_method_1_code, 1, none)
abbrev mt_History_init : ga_M := (⟨"GainTables$History", "<init>", "()V"⟩, prog_4_method_1_code, 2, none)
abbrev mt_Text_init : ga_M := (⟨"GainTables$Text", "<init>", "()V"⟩, prog_8_method_1_code, 1, none)
abbrev mt_Blend_init : ga_M := (⟨"GainTables$Blend", "<init>", "()V"⟩, prog_2_method_1_code, 1, none)
abbrev mt_GT_addBorder : ga_M := (⟨"GainTables", "addBorder", "(IIII)I"⟩, prog_1_method_2_code, 8, some .int)
abbrev mt_GT_isAxis : ga_M := (⟨"GainTables", "isAxis", "(I)Z"⟩, prog_1_method_33_code, 1, some .boolean)
abbrev mt_GT_isIn : ga_M := (⟨"GainTables", "isIn", "(III)Z"⟩, prog_1_method_32_code, 3, some .boolean)
abbrev mt_GT_isReach : ga_M := (⟨"GainTables", "isReach", "(II)Z"⟩, prog_1_method_38_code, 2, some .boolean)
abbrev mt_Borders_isInside : ga_M := (⟨"GainTables$Borders", "isInside", "(II)Z"⟩, prog_3_method_9_code, 2, some .boolean)
abbrev mt_Table_bordersOf : ga_M := (⟨"GainTables$Table", "bordersOf", "(I)LGainTables$Borders;"⟩, prog_7_method_4_code, 2, some (.object "GainTables$Borders"))
abbrev mt_Borders_isFree : ga_M := (⟨"GainTables$Borders", "isFree", "(III)Z"⟩, prog_3_method_10_code, 5, some .boolean)
abbrev mt_Borders_isFull : ga_M := (⟨"GainTables$Borders", "isFull", "()Z"⟩, prog_3_method_4_code, 1, some .boolean)
abbrev mt_History_keep : ga_M := (⟨"GainTables$History", "keep", "(LGainTables$State;)V"⟩, prog_4_method_2_code, 3, none)
abbrev mt_State_copyFrom : ga_M := (⟨"GainTables$State", "copyFrom", "(LGainTables$State;)V"⟩, prog_6_method_2_code, 3, none)
abbrev mt_Table_copyFrom : ga_M := (⟨"GainTables$Table", "copyFrom", "(LGainTables$Table;)V"⟩, prog_7_method_3_code, 2, none)
abbrev mt_Borders_copyFrom : ga_M := (⟨"GainTables$Borders", "copyFrom", "(LGainTables$Borders;)V"⟩, prog_3_method_2_code, 2, none)
abbrev mt_Path_copyFrom : ga_M := (⟨"GainTables$Path", "copyFrom", "(LGainTables$Path;)V"⟩, prog_5_method_2_code, 2, none)
abbrev mt_Table_sumOfGains : ga_M := (⟨"GainTables$Table", "sumOfGains", "()I"⟩, prog_7_method_12_code, 5, some .int)
abbrev mt_Table_regionAt : ga_M := (⟨"GainTables$Table", "regionAt", "(II)I"⟩, prog_7_method_6_code, 2, some .int)
abbrev mt_Table_gainAt : ga_M := (⟨"GainTables$Table", "gainAt", "(II)I"⟩, prog_7_method_7_code, 4, some .int)
abbrev mt_Table_splitAt : ga_M := (⟨"GainTables$Table", "splitAt", "(IIII)I"⟩, prog_7_method_14_code, 8, some .int)
abbrev mt_Borders_insert : ga_M := (⟨"GainTables$Borders", "insert", "(III)I"⟩, prog_3_method_18_code, 6, some .int)
abbrev mt_Borders_stripOf : ga_M := (⟨"GainTables$Borders", "stripOf", "(I)I"⟩, prog_3_method_11_code, 4, some .int)
abbrev mt_Borders_copyBorder : ga_M := (⟨"GainTables$Borders", "copyBorder", "(II)V"⟩, prog_3_method_20_code, 3, none)
abbrev mt_Table_copyStrip : ga_M := (⟨"GainTables$Table", "copyStrip", "(III)V"⟩, prog_7_method_16_code, 8, none)
abbrev mt_Table_putGain : ga_M := (⟨"GainTables$Table", "putGain", "(III)V"⟩, prog_7_method_8_code, 5, none)
abbrev mt_Table_lockAt : ga_M := (⟨"GainTables$Table", "lockAt", "(I)I"⟩, prog_7_method_9_code, 2, some .int)
abbrev mt_Table_putLock : ga_M := (⟨"GainTables$Table", "putLock", "(II)V"⟩, prog_7_method_10_code, 3, none)
abbrev mt_State_settleTable : ga_M := (⟨"GainTables$State", "settleTable", "(I)V"⟩, prog_6_method_7_code, 2, none)
abbrev mt_State_findZones : ga_M := (⟨"GainTables$State", "findZones", "()V"⟩, prog_6_method_6_code, 1, none)
abbrev mt_Borders_zoneOf : ga_M := (⟨"GainTables$Borders", "zoneOf", "(I)I"⟩, prog_3_method_13_code, 4, some .int)
abbrev mt_GT_edit : ga_M := (⟨"GainTables", "edit", "(IIIII)I"⟩, prog_1_method_6_code, 8, some .int)
abbrev mt_GT_isEdit : ga_M := (⟨"GainTables", "isEdit", "(IIIII)Z"⟩, prog_1_method_42_code, 6, some .boolean)
abbrev mt_GT_isOperator : ga_M := (⟨"GainTables", "isOperator", "(I)Z"⟩, prog_1_method_36_code, 1, some .boolean)
abbrev mt_GT_isRegion : ga_M := (⟨"GainTables", "isRegion", "(II)Z"⟩, prog_1_method_41_code, 3, some .boolean)
abbrev mt_GT_isGain : ga_M := (⟨"GainTables", "isGain", "(I)Z"⟩, prog_1_method_35_code, 1, some .boolean)
abbrev mt_State_reasonAgainst : ga_M := (⟨"GainTables$State", "reasonAgainst", "(IIII)I"⟩, prog_6_method_12_code, 7, some .int)
abbrev mt_Math_abs : ga_M := (⟨"java/lang/Math", "abs", "(I)I"⟩, prog_11_method_59_code, 1, some .int)
abbrev mt_State_carryOutEdit : ga_M := (⟨"GainTables$State", "carryOutEdit", "(IIII)V"⟩, prog_6_method_13_code, 6, none)
abbrev mt_GT_setMargin : ga_M := (⟨"GainTables", "setMargin", "(I)I"⟩, prog_1_method_9_code, 3, some .int)
abbrev mt_GT_move : ga_M := (⟨"GainTables", "move", "(II)I"⟩, prog_1_method_10_code, 3, some .int)
abbrev mt_GT_isCoordinate : ga_M := (⟨"GainTables", "isCoordinate", "(I)Z"⟩, prog_1_method_34_code, 1, some .boolean)
abbrev mt_GT_carryOutMove : ga_M := (⟨"GainTables", "carryOutMove", "(II)I"⟩, prog_1_method_44_code, 4, some .int)
abbrev mt_State_ignores : ga_M := (⟨"GainTables$State", "ignores", "(II)Z"⟩, prog_6_method_9_code, 3, some .boolean)
abbrev mt_GT_blendAtPoint : ga_M := (⟨"GainTables", "blendAtPoint", "()V"⟩, prog_1_method_45_code, 1, none)
abbrev mt_Blend_findIn : ga_M := (⟨"GainTables$Blend", "findIn", "(LGainTables$Borders;II)V"⟩, prog_2_method_2_code, 7, none)
abbrev mt_Borders_heldIn : ga_M := (⟨"GainTables$Borders", "heldIn", "(II)I"⟩, prog_3_method_15_code, 6, some .int)
abbrev mt_Math_max : ga_M := (⟨"java/lang/Math", "max", "(II)I"⟩, prog_11_method_65_code, 2, some .int)
abbrev mt_Math_min : ga_M := (⟨"java/lang/Math", "min", "(II)I"⟩, prog_11_method_69_code, 2, some .int)
abbrev mt_Borders_blendingAt : ga_M := (⟨"GainTables$Borders", "blendingAt", "(I)I"⟩, prog_3_method_16_code, 3, some .int)
abbrev mt_Borders_reachOf : ga_M := (⟨"GainTables$Borders", "reachOf", "(I)I"⟩, prog_3_method_7_code, 2, some .int)
abbrev mt_Borders_has : ga_M := (⟨"GainTables$Borders", "has", "(I)Z"⟩, prog_3_method_3_code, 2, some .boolean)
abbrev mt_Borders_positionOf : ga_M := (⟨"GainTables$Borders", "positionOf", "(I)I"⟩, prog_3_method_5_code, 2, some .int)
abbrev mt_GT_noteValues : ga_M := (⟨"GainTables", "noteValues", "([I)V"⟩, prog_1_method_47_code, 3, none)
abbrev mt_GT_blendedValue : ga_M := (⟨"GainTables", "blendedValue", "(I)I"⟩, prog_1_method_46_code, 3, some .int)
abbrev mt_Table_numerator : ga_M := (⟨"GainTables$Table", "numerator", "(LGainTables$Blend;LGainTables$Blend;I)I"⟩, prog_7_method_13_code, 6, some .int)
abbrev mt_State_putPoint : ga_M := (⟨"GainTables$State", "putPoint", "(II)V"⟩, prog_6_method_10_code, 3, none)
abbrev mt_Borders_zoneAfter : ga_M := (⟨"GainTables$Borders", "zoneAfter", "(II)I"⟩, prog_3_method_14_code, 6, some .int)
abbrev mt_GT_greatestDifference : ga_M := (⟨"GainTables", "greatestDifference", "()I"⟩, prog_1_method_48_code, 3, some .int)
abbrev mt_State_noteEntry : ga_M := (⟨"GainTables$State", "noteEntry", "([II)V"⟩, prog_6_method_11_code, 4, none)
abbrev mt_Path_startEntry : ga_M := (⟨"GainTables$Path", "startEntry", "()V"⟩, prog_5_method_3_code, 1, none)
abbrev mt_Path_putPart : ga_M := (⟨"GainTables$Path", "putPart", "(II)V"⟩, prog_5_method_4_code, 4, none)
abbrev mt_GT_sweep : ga_M := (⟨"GainTables", "sweep", "(III)I"⟩, prog_1_method_11_code, 8, some .int)
abbrev mt_GT_placeTowards : ga_M := (⟨"GainTables", "placeTowards", "(III)I"⟩, prog_1_method_43_code, 3, some .int)
abbrev mt_GT_undo : ga_M := (⟨"GainTables", "undo", "()I"⟩, prog_1_method_14_code, 1, some .int)
abbrev mt_History_bringBack : ga_M := (⟨"GainTables$History", "bringBack", "(LGainTables$State;)V"⟩, prog_4_method_3_code, 3, none)
abbrev mt_GT_append : ga_M := (⟨"GainTables", "append", "(I)I"⟩, prog_1_method_15_code, 2, some .int)
abbrev mt_Text_put : ga_M := (⟨"GainTables$Text", "put", "(C)V"⟩, prog_8_method_2_code, 2, none)
abbrev mt_GT_count : ga_M := (⟨"GainTables", "count", "(I)I"⟩, prog_1_method_18_code, 2, some .int)
abbrev mt_Table_regions : ga_M := (⟨"GainTables$Table", "regions", "()I"⟩, prog_7_method_5_code, 1, some .int)
abbrev mt_State_placesTaken : ga_M := (⟨"GainTables$State", "placesTaken", "()I"⟩, prog_6_method_4_code, 3, some .int)
abbrev mt_GT_effect : ga_M := (⟨"GainTables", "effect", "(II)I"⟩, prog_1_method_27_code, 5, some .int)
abbrev mt_GT_valueAt : ga_M := (⟨"GainTables", "valueAt", "(III)I"⟩, prog_1_method_28_code, 4, some .int)
abbrev mt_Blend_findByPosition : ga_M := (⟨"GainTables$Blend", "findByPosition", "(LGainTables$Borders;I)V"⟩, prog_2_method_3_code, 3, none)
abbrev mt_GT_chatter : ga_M := (⟨"GainTables", "chatter", "(IIII)I"⟩, prog_1_method_29_code, 6, some .int)
abbrev mt_GT_isSwing : ga_M := (⟨"GainTables", "isSwing", "(II)Z"⟩, prog_1_method_39_code, 2, some .boolean)
abbrev mt_Borders_zoneChanges : ga_M := (⟨"GainTables$Borders", "zoneChanges", "(IIII)I"⟩, prog_3_method_17_code, 10, some .int)
abbrev mt_GT_steepest : ga_M := (⟨"GainTables", "steepest", "(III)I"⟩, prog_1_method_31_code, 11, some .int)
abbrev mt_Law_cell : ga_M := (⟨"GainTablesLaw", "cell", "([II)I"⟩, method_2_code, 2, some .int)
abbrev mt_Law_low : ga_M := (⟨"GainTablesLaw", "low", "(II)I"⟩, method_3_code, 2, some .int)
abbrev mt_Law_digest : ga_M := (⟨"GainTablesLaw", "digest", "(LGainTables;)J"⟩, method_4_code, 6, some .long)
abbrev mt_GT_axis : ga_M := (⟨"GainTables", "axis", "(II)I"⟩, prog_1_method_19_code, 4, some .int)
abbrev mt_Borders_zones : ga_M := (⟨"GainTables$Borders", "zones", "()I"⟩, prog_3_method_12_code, 1, some .int)
abbrev mt_GT_border : ga_M := (⟨"GainTables", "border", "(III)I"⟩, prog_1_method_20_code, 5, some .int)
abbrev mt_Borders_kindOf : ga_M := (⟨"GainTables$Borders", "kindOf", "(I)I"⟩, prog_3_method_6_code, 2, some .int)
abbrev mt_GT_region : ga_M := (⟨"GainTables", "region", "(III)I"⟩, prog_1_method_21_code, 5, some .int)
abbrev mt_GT_operator : ga_M := (⟨"GainTables", "operator", "(II)I"⟩, prog_1_method_22_code, 3, some .int)
abbrev mt_Table_locksOf : ga_M := (⟨"GainTables$Table", "locksOf", "(I)I"⟩, prog_7_method_11_code, 5, some .int)
abbrev mt_GT_account : ga_M := (⟨"GainTables", "account", "(I)I"⟩, prog_1_method_23_code, 2, some .int)
abbrev mt_State_sumOfAccounts : ga_M := (⟨"GainTables$State", "sumOfAccounts", "()I"⟩, prog_6_method_5_code, 3, some .int)
abbrev mt_GT_gain : ga_M := (⟨"GainTables", "gain", "(II)I"⟩, prog_1_method_24_code, 3, some .int)
abbrev mt_GT_trail : ga_M := (⟨"GainTables", "trail", "(II)I"⟩, prog_1_method_25_code, 3, some .int)
abbrev mt_Path_partOf : ga_M := (⟨"GainTables$Path", "partOf", "(II)I"⟩, prog_5_method_5_code, 4, some .int)
abbrev mt_Math_floorMod : ga_M := (⟨"java/lang/Math", "floorMod", "(II)I"⟩, prog_11_method_50_code, 3, some .int)
abbrev mt_Law_act : ga_M := (⟨"GainTablesLaw", "act", "(LGainTables;I)I"⟩, method_5_code, 5, some .int)
abbrev mt_GT_removeBorder : ga_M := (⟨"GainTables", "removeBorder", "(II)I"⟩, prog_1_method_3_code, 4, some .int)
abbrev mt_GT_isBorder : ga_M := (⟨"GainTables", "isBorder", "(II)Z"⟩, prog_1_method_40_code, 3, some .boolean)
abbrev mt_Table_mergeAt : ga_M := (⟨"GainTables$Table", "mergeAt", "(II)V"⟩, prog_7_method_15_code, 5, none)
abbrev mt_Borders_delete : ga_M := (⟨"GainTables$Borders", "delete", "(I)V"⟩, prog_3_method_19_code, 3, none)
abbrev mt_GT_setReach : ga_M := (⟨"GainTables", "setReach", "(III)I"⟩, prog_1_method_4_code, 7, some .int)
abbrev mt_Borders_putReach : ga_M := (⟨"GainTables$Borders", "putReach", "(II)V"⟩, prog_3_method_8_code, 3, none)
abbrev mt_GT_setOperator : ga_M := (⟨"GainTables", "setOperator", "(III)I"⟩, prog_1_method_5_code, 6, some .int)
abbrev mt_GT_scale : ga_M := (⟨"GainTables", "scale", "(III)I"⟩, prog_1_method_7_code, 9, some .int)
abbrev mt_GT_lock : ga_M := (⟨"GainTables", "lock", "(IIII)I"⟩, prog_1_method_8_code, 7, some .int)
abbrev mt_GT_take : ga_M := (⟨"GainTables", "take", "(I)I"⟩, prog_1_method_12_code, 2, some .int)
abbrev mt_GT_isPlace : ga_M := (⟨"GainTables", "isPlace", "(I)Z"⟩, prog_1_method_37_code, 1, some .boolean)
abbrev mt_State_snapshotAt : ga_M := (⟨"GainTables$State", "snapshotAt", "(I)LGainTables$Table;"⟩, prog_6_method_3_code, 2, some (.object "GainTables$Table"))
abbrev mt_GT_restore : ga_M := (⟨"GainTables", "restore", "(I)I"⟩, prog_1_method_13_code, 2, some .int)
abbrev mt_State_replaceTable : ga_M := (⟨"GainTables$State", "replaceTable", "(LGainTables$Table;)V"⟩, prog_6_method_8_code, 3, none)
abbrev mt_Law_isRight : ga_M := (⟨"GainTablesLaw", "isRight", "(LGainTables;)Z"⟩, method_6_code, 10, some .boolean)
