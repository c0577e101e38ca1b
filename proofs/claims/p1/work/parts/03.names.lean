/-! NAMES, written by gen/names.py: classes, fields, words, methods -/
def T_AL : u_T := fun k => match k with
  | 0 => ("java/util/ArrayList", "elementData", "[Ljava/lang/Object;", false)
  | 1 => ("java/util/ArrayList", "size", "I", false)
  | _ => ("java/util/AbstractList", "modCount", "I", false)
def t_AL : Nat → FieldType := fun k => match k with
  | 0 => .array (.object "java/lang/Object")
  | 1 => .int
  | _ => .int
theorem n_AL : ∀ a, a < 3 → ∀ b, b < 3 → a ≠ b → (T_AL a).2.1 ≠ (T_AL b).2.1 := by decide +kernel
theorem t_AL_ok : ∀ k, k < 3 → parseFieldDescriptor (T_AL k).2.2.1 = some (t_AL k) := by decide +kernel
def T_An : u_T := fun k => match k with
  | 0 => ("ZoneAnswers$Answer", "zone", "LZoneAnswers$Zone;", true)
  | 1 => ("ZoneAnswers$Answer", "answers", "LZoneAnswers$Section;", true)
  | 2 => ("ZoneAnswers$Answer", "authority", "LZoneAnswers$Section;", true)
  | 3 => ("ZoneAnswers$Answer", "more", "LZoneAnswers$Section;", true)
  | 4 => ("ZoneAnswers$Answer", "type", "I", false)
  | _ => ("ZoneAnswers$Answer", "secure", "Z", false)
def t_An : Nat → FieldType := fun k => match k with
  | 0 => .object "ZoneAnswers$Zone"
  | 1 => .object "ZoneAnswers$Section"
  | 2 => .object "ZoneAnswers$Section"
  | 3 => .object "ZoneAnswers$Section"
  | 4 => .int
  | _ => .boolean
theorem n_An : ∀ a, a < 6 → ∀ b, b < 6 → a ≠ b → (T_An a).2.1 ≠ (T_An b).2.1 := by decide +kernel
theorem t_An_ok : ∀ k, k < 6 → parseFieldDescriptor (T_An k).2.2.1 = some (t_An k) := by decide +kernel
def T_Da : u_T := fun k => match k with
  | 0 => ("ZoneAnswers$Datum", "bytes", "[B", true)
  | _ => ("ZoneAnswers$Datum", "target", "LZoneAnswers$Name;", true)
def t_Da : Nat → FieldType := fun k => match k with
  | 0 => .array .byte
  | _ => .object "ZoneAnswers$Name"
theorem n_Da : ∀ a, a < 2 → ∀ b, b < 2 → a ≠ b → (T_Da a).2.1 ≠ (T_Da b).2.1 := by decide +kernel
theorem t_Da_ok : ∀ k, k < 2 → parseFieldDescriptor (T_Da k).2.2.1 = some (t_Da k) := by decide +kernel
def T_Na : u_T := fun k => match k with
  | 0 => ("ZoneAnswers$Name", "bytes", "[B", true)
  | _ => ("ZoneAnswers$Name", "labels", "I", true)
def t_Na : Nat → FieldType := fun k => match k with
  | 0 => .array .byte
  | _ => .int
theorem n_Na : ∀ a, a < 2 → ∀ b, b < 2 → a ≠ b → (T_Na a).2.1 ≠ (T_Na b).2.1 := by decide +kernel
theorem t_Na_ok : ∀ k, k < 2 → parseFieldDescriptor (T_Na k).2.2.1 = some (t_Na k) := by decide +kernel
def T_Ow : u_T := fun k => match k with
  | 0 => ("ZoneAnswers$Owner", "name", "LZoneAnswers$Name;", true)
  | 1 => ("ZoneAnswers$Owner", "sets", "Ljava/util/ArrayList;", true)
  | _ => ("ZoneAnswers$Owner", "cut", "LZoneAnswers$Owner;", false)
def t_Ow : Nat → FieldType := fun k => match k with
  | 0 => .object "ZoneAnswers$Name"
  | 1 => .object "java/util/ArrayList"
  | _ => .object "ZoneAnswers$Owner"
theorem n_Ow : ∀ a, a < 3 → ∀ b, b < 3 → a ≠ b → (T_Ow a).2.1 ≠ (T_Ow b).2.1 := by decide +kernel
theorem t_Ow_ok : ∀ k, k < 3 → parseFieldDescriptor (T_Ow k).2.2.1 = some (t_Ow k) := by decide +kernel
def T_Rr : u_T := fun k => match k with
  | 0 => ("ZoneAnswers$Rrset", "type", "I", true)
  | 1 => ("ZoneAnswers$Rrset", "time", "I", false)
  | _ => ("ZoneAnswers$Rrset", "data", "Ljava/util/ArrayList;", true)
def t_Rr : Nat → FieldType := fun k => match k with
  | 0 => .int
  | 1 => .int
  | _ => .object "java/util/ArrayList"
theorem n_Rr : ∀ a, a < 3 → ∀ b, b < 3 → a ≠ b → (T_Rr a).2.1 ≠ (T_Rr b).2.1 := by decide +kernel
theorem t_Rr_ok : ∀ k, k < 3 → parseFieldDescriptor (T_Rr k).2.2.1 = some (t_Rr k) := by decide +kernel
def T_Se : u_T := fun k => match k with
  | _ => ("ZoneAnswers$Section", "rows", "Ljava/util/ArrayList;", true)
def t_Se : Nat → FieldType := fun k => match k with
  | _ => .object "java/util/ArrayList"
theorem n_Se : ∀ a, a < 1 → ∀ b, b < 1 → a ≠ b → (T_Se a).2.1 ≠ (T_Se b).2.1 := by decide +kernel
theorem t_Se_ok : ∀ k, k < 1 → parseFieldDescriptor (T_Se k).2.2.1 = some (t_Se k) := by decide +kernel
def T_Ta : u_T := fun k => match k with
  | 0 => ("ZoneAnswers$Tape", "bytes", "[B", false)
  | _ => ("ZoneAnswers$Tape", "length", "I", false)
def t_Ta : Nat → FieldType := fun k => match k with
  | 0 => .array .byte
  | _ => .int
theorem n_Ta : ∀ a, a < 2 → ∀ b, b < 2 → a ≠ b → (T_Ta a).2.1 ≠ (T_Ta b).2.1 := by decide +kernel
theorem t_Ta_ok : ∀ k, k < 2 → parseFieldDescriptor (T_Ta k).2.2.1 = some (t_Ta k) := by decide +kernel
def T_To : u_T := fun k => match k with
  | 0 => ("ZoneAnswers$Told", "name", "LZoneAnswers$Name;", true)
  | 1 => ("ZoneAnswers$Told", "type", "I", true)
  | 2 => ("ZoneAnswers$Told", "time", "I", true)
  | _ => ("ZoneAnswers$Told", "datum", "LZoneAnswers$Datum;", true)
def t_To : Nat → FieldType := fun k => match k with
  | 0 => .object "ZoneAnswers$Name"
  | 1 => .int
  | 2 => .int
  | _ => .object "ZoneAnswers$Datum"
theorem n_To : ∀ a, a < 4 → ∀ b, b < 4 → a ≠ b → (T_To a).2.1 ≠ (T_To b).2.1 := by decide +kernel
theorem t_To_ok : ∀ k, k < 4 → parseFieldDescriptor (T_To k).2.2.1 = some (t_To k) := by decide +kernel
def T_Zo : u_T := fun k => match k with
  | 0 => ("ZoneAnswers$Zone", "owners", "Ljava/util/ArrayList;", true)
  | 1 => ("ZoneAnswers$Zone", "top", "LZoneAnswers$Name;", false)
  | 2 => ("ZoneAnswers$Zone", "start", "LZoneAnswers$Rrset;", false)
  | 3 => ("ZoneAnswers$Zone", "startData", "[B", false)
  | _ => ("ZoneAnswers$Zone", "records", "I", false)
def t_Zo : Nat → FieldType := fun k => match k with
  | 0 => .object "java/util/ArrayList"
  | 1 => .object "ZoneAnswers$Name"
  | 2 => .object "ZoneAnswers$Rrset"
  | 3 => .array .byte
  | _ => .int
theorem n_Zo : ∀ a, a < 5 → ∀ b, b < 5 → a ≠ b → (T_Zo a).2.1 ≠ (T_Zo b).2.1 := by decide +kernel
theorem t_Zo_ok : ∀ k, k < 5 → parseFieldDescriptor (T_Zo k).2.2.1 = some (t_Zo k) := by decide +kernel
def T_ZA : u_T := fun k => match k with
  | 0 => ("ZoneAnswers", "tape", "LZoneAnswers$Tape;", true)
  | 1 => ("ZoneAnswers", "zone", "LZoneAnswers$Zone;", true)
  | _ => ("ZoneAnswers", "answer", "LZoneAnswers$Answer;", true)
def t_ZA : Nat → FieldType := fun k => match k with
  | 0 => .object "ZoneAnswers$Tape"
  | 1 => .object "ZoneAnswers$Zone"
  | _ => .object "ZoneAnswers$Answer"
theorem n_ZA : ∀ a, a < 3 → ∀ b, b < 3 → a ≠ b → (T_ZA a).2.1 ≠ (T_ZA b).2.1 := by decide +kernel
theorem t_ZA_ok : ∀ k, k < 3 → parseFieldDescriptor (T_ZA k).2.2.1 = some (t_ZA k) := by decide +kernel
def T_Mo : u_T := fun k => match k with
  | 0 => ("ZoneAnswersModel", "thrown", "I", false)
  | 1 => ("ZoneAnswersModel", "tape", "[B", true)
  | 2 => ("ZoneAnswersModel", "tapes", "I", false)
  | 3 => ("ZoneAnswersModel", "origin", "[B", false)
  | 4 => ("ZoneAnswersModel", "recs", "[LZoneAnswersModel$Rec;", true)
  | 5 => ("ZoneAnswersModel", "n", "I", false)
  | 6 => ("ZoneAnswersModel", "section", "[I", false)
  | 7 => ("ZoneAnswersModel", "type", "[I", false)
  | 8 => ("ZoneAnswersModel", "time", "[I", false)
  | 9 => ("ZoneAnswersModel", "dataAt", "[I", false)
  | 10 => ("ZoneAnswersModel", "dataSize", "[I", false)
  | 11 => ("ZoneAnswersModel", "name", "[[B", false)
  | 12 => ("ZoneAnswersModel", "rows", "[[B", false)
  | 13 => ("ZoneAnswersModel", "answers", "I", false)
  | 14 => ("ZoneAnswersModel", "code", "I", false)
  | 15 => ("ZoneAnswersModel", "pool", "[B", false)
  | 16 => ("ZoneAnswersModel", "pooled", "I", false)
  | 17 => ("ZoneAnswersModel", "secure", "Z", false)
  | 18 => ("ZoneAnswersModel", "from", "[B", true)
  | 19 => ("ZoneAnswersModel", "toldName", "[B", false)
  | _ => ("ZoneAnswersModel", "toldData", "[B", false)
def t_Mo : Nat → FieldType := fun k => match k with
  | 0 => .int
  | 1 => .array .byte
  | 2 => .int
  | 3 => .array .byte
  | 4 => .array (.object "ZoneAnswersModel$Rec")
  | 5 => .int
  | 6 => .array .int
  | 7 => .array .int
  | 8 => .array .int
  | 9 => .array .int
  | 10 => .array .int
  | 11 => .array (.array .byte)
  | 12 => .array (.array .byte)
  | 13 => .int
  | 14 => .int
  | 15 => .array .byte
  | 16 => .int
  | 17 => .boolean
  | 18 => .array .byte
  | 19 => .array .byte
  | _ => .array .byte
theorem n_Mo : ∀ a, a < 21 → ∀ b, b < 21 → a ≠ b → (T_Mo a).2.1 ≠ (T_Mo b).2.1 := by decide +kernel
theorem t_Mo_ok : ∀ k, k < 21 → parseFieldDescriptor (T_Mo k).2.2.1 = some (t_Mo k) := by decide +kernel
def T_Re : u_T := fun k => match k with
  | 0 => ("ZoneAnswersModel$Rec", "name", "[B", false)
  | 1 => ("ZoneAnswersModel$Rec", "data", "[B", false)
  | 2 => ("ZoneAnswersModel$Rec", "target", "[B", false)
  | 3 => ("ZoneAnswersModel$Rec", "type", "I", false)
  | _ => ("ZoneAnswersModel$Rec", "time", "I", false)
def t_Re : Nat → FieldType := fun k => match k with
  | 0 => .array .byte
  | 1 => .array .byte
  | 2 => .array .byte
  | 3 => .int
  | _ => .int
theorem n_Re : ∀ a, a < 5 → ∀ b, b < 5 → a ≠ b → (T_Re a).2.1 ≠ (T_Re b).2.1 := by decide +kernel
theorem t_Re_ok : ∀ k, k < 5 → parseFieldDescriptor (T_Re k).2.2.1 = some (t_Re k) := by decide +kernel
abbrev zCl : List vw_C := [("java/util/ArrayList", T_AL, 3), ("ZoneAnswers$Answer", T_An, 6), ("ZoneAnswers$Datum", T_Da, 2), ("ZoneAnswers$Name", T_Na, 2), ("ZoneAnswers$Owner", T_Ow, 3), ("ZoneAnswers$Rrset", T_Rr, 3), ("ZoneAnswers$Section", T_Se, 1), ("ZoneAnswers$Tape", T_Ta, 2), ("ZoneAnswers$Told", T_To, 4), ("ZoneAnswers$Zone", T_Zo, 5), ("ZoneAnswers", T_ZA, 3), ("ZoneAnswersModel", T_Mo, 21), ("ZoneAnswersModel$Rec", T_Re, 5)]
