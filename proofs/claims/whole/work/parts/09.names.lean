/-! NAMES: kinds of objects, their fields, the methods; what the tables say of them (by program) -/
/-- the words that hold anywhere -/
def lw_g : List Cond := lw_tbl.filter goodWord
theorem in_1 {w : Cond} (h : w ∈ tables_1_1) (hg : goodWord w = true) : w ∈ lw_g := List.mem_filter.mpr ⟨List.mem_append_right _ (show w ∈ tables_1 from List.mem_append_left _ h), hg⟩
theorem in_2 {w : Cond} (h : w ∈ tables_1_2) (hg : goodWord w = true) : w ∈ lw_g := List.mem_filter.mpr ⟨List.mem_append_right _ (show w ∈ tables_1 from List.mem_append_right _ (List.mem_append_left _ h)), hg⟩
theorem in_3 {w : Cond} (h : w ∈ tables_1_3) (hg : goodWord w = true) : w ∈ lw_g := List.mem_filter.mpr ⟨List.mem_append_right _ (show w ∈ tables_1 from List.mem_append_right _ (List.mem_append_right _ (List.mem_append_left _ h))), hg⟩
theorem in_4 {w : Cond} (h : w ∈ tables_1_4) (hg : goodWord w = true) : w ∈ lw_g := List.mem_filter.mpr ⟨List.mem_append_right _ (show w ∈ tables_1 from List.mem_append_right _ (List.mem_append_right _ (List.mem_append_right _ (List.mem_append_left _ h)))), hg⟩
theorem in_5 {w : Cond} (h : w ∈ tables_1_5) (hg : goodWord w = true) : w ∈ lw_g := List.mem_filter.mpr ⟨List.mem_append_right _ (show w ∈ tables_1 from List.mem_append_right _ (List.mem_append_right _ (List.mem_append_right _ (List.mem_append_right _ (List.mem_append_left _ h))))), hg⟩
theorem in_6 {w : Cond} (h : w ∈ tables_1_6) (hg : goodWord w = true) : w ∈ lw_g := List.mem_filter.mpr ⟨List.mem_append_right _ (show w ∈ tables_1 from List.mem_append_right _ (List.mem_append_right _ (List.mem_append_right _ (List.mem_append_right _ (List.mem_append_right _ (List.mem_append_left _ h)))))), hg⟩
theorem in_7 {w : Cond} (h : w ∈ tables_1_7) (hg : goodWord w = true) : w ∈ lw_g := List.mem_filter.mpr ⟨List.mem_append_right _ (show w ∈ tables_1 from List.mem_append_right _ (List.mem_append_right _ (List.mem_append_right _ (List.mem_append_right _ (List.mem_append_right _ (List.mem_append_right _ (List.mem_append_left _ h))))))), hg⟩
theorem in_8 {w : Cond} (h : w ∈ tables_1_8) (hg : goodWord w = true) : w ∈ lw_g := List.mem_filter.mpr ⟨List.mem_append_right _ (show w ∈ tables_1 from List.mem_append_right _ (List.mem_append_right _ (List.mem_append_right _ (List.mem_append_right _ (List.mem_append_right _ (List.mem_append_right _ (List.mem_append_right _ (List.mem_append_left _ h)))))))), hg⟩
theorem in_9 {w : Cond} (h : w ∈ tables_1_9) (hg : goodWord w = true) : w ∈ lw_g := List.mem_filter.mpr ⟨List.mem_append_right _ (show w ∈ tables_1 from List.mem_append_right _ (List.mem_append_right _ (List.mem_append_right _ (List.mem_append_right _ (List.mem_append_right _ (List.mem_append_right _ (List.mem_append_right _ (List.mem_append_right _ (h))))))))), hg⟩
def mO (o : Nat) : String := (["RunSayer$City", "RunSayer$Exam", "RunSayer$Finder", "RunSayer$Ledger", "RunSayer$Links", "RunSayer$Pupil", "RunSayer$Route", "RunSayer$Rule", "RunSayer$Sheet", "RunSayer$Speech", "RunSayer$Tape", "RunSayer", "RunSayerModel", "java/lang/String", "java/lang/Integer", "java/lang/Math", "java/lang/StringLatin1", "jdk/internal/util/Preconditions", "RunSayerLaw"] : List String).getD o ""
def fT_0 : u_T := fun k => match k with
  | 0 => ("RunSayer$City", "xs", "[I", true)
  | 1 => ("RunSayer$City", "ys", "[I", true)
  | 2 => ("RunSayer$City", "rings", "[I", true)
  | 3 => ("RunSayer$City", "junctionCount", "I", false)
  | 4 => ("RunSayer$City", "wayKind", "[I", true)
  | 5 => ("RunSayer$City", "wayFeet", "[I", true)
  | 6 => ("RunSayer$City", "wayOne", "[I", true)
  | 7 => ("RunSayer$City", "wayCount", "I", false)
  | 8 => ("RunSayer$City", "legStart", "[I", true)
  | 9 => ("RunSayer$City", "legX", "[I", true)
  | 10 => ("RunSayer$City", "legY", "[I", true)
  | 11 => ("RunSayer$City", "doorWay", "[I", true)
  | 12 => ("RunSayer$City", "doorFeet", "[I", true)
  | 13 => ("RunSayer$City", "doorSide", "[I", true)
  | 14 => ("RunSayer$City", "doorCount", "I", false)
  | 15 => ("RunSayer$City", "thingSort", "[I", true)
  | 16 => ("RunSayer$City", "thingNumber", "[I", true)
  | 17 => ("RunSayer$City", "thingCount", "I", false)
  | 18 => ("RunSayer$City", "outLegs", "[I", true)
  | _ => ("RunSayer$City", "outCount", "[I", true)
def fY_0 : Nat → FieldType := fun k => match k with
  | 0 => .array (.int)
  | 1 => .array (.int)
  | 2 => .array (.int)
  | 3 => .int
  | 4 => .array (.int)
  | 5 => .array (.int)
  | 6 => .array (.int)
  | 7 => .int
  | 8 => .array (.int)
  | 9 => .array (.int)
  | 10 => .array (.int)
  | 11 => .array (.int)
  | 12 => .array (.int)
  | 13 => .array (.int)
  | 14 => .int
  | 15 => .array (.int)
  | 16 => .array (.int)
  | 17 => .int
  | 18 => .array (.int)
  | _ => .array (.int)
theorem nm_0 : ∀ a, a < 20 → ∀ b, b < 20 → a ≠ b → (fT_0 a).2.1 ≠ (fT_0 b).2.1 := by decide +kernel
theorem ty_0 : ∀ k, k < 20 → parseFieldDescriptor (fT_0 k).2.2.1 = some (fY_0 k) := by decide +kernel
def fT_1 : u_T := fun k => match k with
  | 0 => ("RunSayer$Exam", "pupil", "I", false)
  | 1 => ("RunSayer$Exam", "mark", "I", false)
  | 2 => ("RunSayer$Exam", "markedBy", "I", false)
  | 3 => ("RunSayer$Exam", "wrong", "I", false)
  | 4 => ("RunSayer$Exam", "over", "I", false)
  | _ => ("RunSayer$Exam", "said", "LRunSayer$Route;", true)
def fY_1 : Nat → FieldType := fun k => match k with
  | 0 => .int
  | 1 => .int
  | 2 => .int
  | 3 => .int
  | 4 => .int
  | _ => .object "RunSayer$Route"
theorem nm_1 : ∀ a, a < 6 → ∀ b, b < 6 → a ≠ b → (fT_1 a).2.1 ≠ (fT_1 b).2.1 := by decide +kernel
theorem ty_1 : ∀ k, k < 6 → parseFieldDescriptor (fT_1 k).2.2.1 = some (fY_1 k) := by decide +kernel
def fT_2 : u_T := fun k => match k with
  | 0 => ("RunSayer$Finder", "city", "LRunSayer$City;", true)
  | 1 => ("RunSayer$Finder", "ledger", "LRunSayer$Ledger;", true)
  | 2 => ("RunSayer$Finder", "usable", "[Z", true)
  | 3 => ("RunSayer$Finder", "price", "[I", true)
  | 4 => ("RunSayer$Finder", "marked", "[Z", true)
  | 5 => ("RunSayer$Finder", "marks", "[I", true)
  | 6 => ("RunSayer$Finder", "markCount", "I", false)
  | 7 => ("RunSayer$Finder", "justMarked", "Z", false)
  | 8 => ("RunSayer$Finder", "offString", "[I", true)
  | 9 => ("RunSayer$Finder", "through", "[J", true)
  | 10 => ("RunSayer$Finder", "toGoal", "[J", true)
  | 11 => ("RunSayer$Finder", "rest", "[J", true)
  | 12 => ("RunSayer$Finder", "settled", "[Z", true)
  | _ => ("RunSayer$Finder", "byFeet", "Z", false)
def fY_2 : Nat → FieldType := fun k => match k with
  | 0 => .object "RunSayer$City"
  | 1 => .object "RunSayer$Ledger"
  | 2 => .array (.boolean)
  | 3 => .array (.int)
  | 4 => .array (.boolean)
  | 5 => .array (.int)
  | 6 => .int
  | 7 => .boolean
  | 8 => .array (.int)
  | 9 => .array (.long)
  | 10 => .array (.long)
  | 11 => .array (.long)
  | 12 => .array (.boolean)
  | _ => .boolean
theorem nm_2 : ∀ a, a < 14 → ∀ b, b < 14 → a ≠ b → (fT_2 a).2.1 ≠ (fT_2 b).2.1 := by decide +kernel
theorem ty_2 : ∀ k, k < 14 → parseFieldDescriptor (fT_2 k).2.2.1 = some (fY_2 k) := by decide +kernel
def fT_3 : u_T := fun k => match k with
  | 0 => ("RunSayer$Ledger", "today", "I", false)
  | 1 => ("RunSayer$Ledger", "nameWay", "[I", true)
  | 2 => ("RunSayer$Ledger", "nameDay", "[I", true)
  | 3 => ("RunSayer$Ledger", "nameWord", "[J", true)
  | 4 => ("RunSayer$Ledger", "nameCount", "I", false)
  | 5 => ("RunSayer$Ledger", "shutWay", "[I", true)
  | 6 => ("RunSayer$Ledger", "shutFrom", "[I", true)
  | 7 => ("RunSayer$Ledger", "shutTo", "[I", true)
  | 8 => ("RunSayer$Ledger", "shutDay", "[I", true)
  | 9 => ("RunSayer$Ledger", "shutCount", "I", false)
  | 10 => ("RunSayer$Ledger", "banFrom", "[I", true)
  | 11 => ("RunSayer$Ledger", "banTo", "[I", true)
  | 12 => ("RunSayer$Ledger", "banFirst", "[I", true)
  | 13 => ("RunSayer$Ledger", "banBehind", "[I", true)
  | 14 => ("RunSayer$Ledger", "banDays", "[I", true)
  | 15 => ("RunSayer$Ledger", "banDay", "[I", true)
  | _ => ("RunSayer$Ledger", "banCount", "I", false)
def fY_3 : Nat → FieldType := fun k => match k with
  | 0 => .int
  | 1 => .array (.int)
  | 2 => .array (.int)
  | 3 => .array (.long)
  | 4 => .int
  | 5 => .array (.int)
  | 6 => .array (.int)
  | 7 => .array (.int)
  | 8 => .array (.int)
  | 9 => .int
  | 10 => .array (.int)
  | 11 => .array (.int)
  | 12 => .array (.int)
  | 13 => .array (.int)
  | 14 => .array (.int)
  | 15 => .array (.int)
  | _ => .int
theorem nm_3 : ∀ a, a < 17 → ∀ b, b < 17 → a ≠ b → (fT_3 a).2.1 ≠ (fT_3 b).2.1 := by decide +kernel
theorem ty_3 : ∀ k, k < 17 → parseFieldDescriptor (fT_3 k).2.2.1 = some (fY_3 k) := by decide +kernel
def fT_4 : u_T := fun k => match k with
  | 0 => ("RunSayer$Links", "linkFrom", "[I", true)
  | 1 => ("RunSayer$Links", "linkTo", "[I", true)
  | 2 => ("RunSayer$Links", "linkCount", "I", false)
  | 3 => ("RunSayer$Links", "behindNumber", "[I", true)
  | 4 => ("RunSayer$Links", "runLinks", "[[I", true)
  | 5 => ("RunSayer$Links", "runLinkCount", "[I", true)
  | 6 => ("RunSayer$Links", "choices", "[I", true)
  | 7 => ("RunSayer$Links", "choiceCount", "I", false)
  | 8 => ("RunSayer$Links", "choicesWith", "[I", true)
  | _ => ("RunSayer$Links", "rowChoices", "[I", true)
def fY_4 : Nat → FieldType := fun k => match k with
  | 0 => .array (.int)
  | 1 => .array (.int)
  | 2 => .int
  | 3 => .array (.int)
  | 4 => .array (.array (.int))
  | 5 => .array (.int)
  | 6 => .array (.int)
  | 7 => .int
  | 8 => .array (.int)
  | _ => .array (.int)
theorem nm_4 : ∀ a, a < 10 → ∀ b, b < 10 → a ≠ b → (fT_4 a).2.1 ≠ (fT_4 b).2.1 := by decide +kernel
theorem ty_4 : ∀ k, k < 10 → parseFieldDescriptor (fT_4 k).2.2.1 = some (fY_4 k) := by decide +kernel
def fT_5 : u_T := fun k => match k with
  | 0 => ("RunSayer$Pupil", "keeps", "I", false)
  | 1 => ("RunSayer$Pupil", "times", "[I", true)
  | _ => ("RunSayer$Pupil", "lastDay", "[I", true)
def fY_5 : Nat → FieldType := fun k => match k with
  | 0 => .int
  | 1 => .array (.int)
  | _ => .array (.int)
theorem nm_5 : ∀ a, a < 3 → ∀ b, b < 3 → a ≠ b → (fT_5 a).2.1 ≠ (fT_5 b).2.1 := by decide +kernel
theorem ty_5 : ∀ k, k < 3 → parseFieldDescriptor (fT_5 k).2.2.1 = some (fY_5 k) := by decide +kernel
def fT_6 : u_T := fun k => match k with
  | 0 => ("RunSayer$Route", "from", "I", false)
  | 1 => ("RunSayer$Route", "to", "I", false)
  | 2 => ("RunSayer$Route", "day", "I", false)
  | 3 => ("RunSayer$Route", "hour", "I", false)
  | 4 => ("RunSayer$Route", "legs", "[I", true)
  | 5 => ("RunSayer$Route", "length", "I", false)
  | 6 => ("RunSayer$Route", "twists", "I", false)
  | _ => ("RunSayer$Route", "feet", "I", false)
def fY_6 : Nat → FieldType := fun k => match k with
  | 0 => .int
  | 1 => .int
  | 2 => .int
  | 3 => .int
  | 4 => .array (.int)
  | 5 => .int
  | 6 => .int
  | _ => .int
theorem nm_6 : ∀ a, a < 8 → ∀ b, b < 8 → a ≠ b → (fT_6 a).2.1 ≠ (fT_6 b).2.1 := by decide +kernel
theorem ty_6 : ∀ k, k < 8 → parseFieldDescriptor (fT_6 k).2.2.1 = some (fY_6 k) := by decide +kernel
def fT_7 : u_T := fun k => match k with
  | 0 => ("RunSayer$Rule", "take", "I", false)
  | 1 => ("RunSayer$Rule", "testCount", "I", false)
  | 2 => ("RunSayer$Rule", "fields", "[I", true)
  | 3 => ("RunSayer$Rule", "signs", "[I", true)
  | _ => ("RunSayer$Rule", "numbers", "[I", true)
def fY_7 : Nat → FieldType := fun k => match k with
  | 0 => .int
  | 1 => .int
  | 2 => .array (.int)
  | 3 => .array (.int)
  | _ => .array (.int)
theorem nm_7 : ∀ a, a < 5 → ∀ b, b < 5 → a ≠ b → (fT_7 a).2.1 ≠ (fT_7 b).2.1 := by decide +kernel
theorem ty_7 : ∀ k, k < 5 → parseFieldDescriptor (fT_7 k).2.2.1 = some (fY_7 k) := by decide +kernel
def fT_8 : u_T := fun k => match k with
  | 0 => ("RunSayer$Sheet", "sort", "I", false)
  | 1 => ("RunSayer$Sheet", "length", "I", false)
  | _ => ("RunSayer$Sheet", "cells", "[I", true)
def fY_8 : Nat → FieldType := fun k => match k with
  | 0 => .int
  | 1 => .int
  | _ => .array (.int)
theorem nm_8 : ∀ a, a < 3 → ∀ b, b < 3 → a ≠ b → (fT_8 a).2.1 ≠ (fT_8 b).2.1 := by decide +kernel
theorem ty_8 : ∀ k, k < 3 → parseFieldDescriptor (fT_8 k).2.2.1 = some (fY_8 k) := by decide +kernel
def fT_9 : u_T := fun k => match k with
  | 0 => ("RunSayer$Speech", "firstDown", "I", false)
  | 1 => ("RunSayer$Speech", "setRight", "I", false)
  | 2 => ("RunSayer$Speech", "turnCount", "I", false)
  | 3 => ("RunSayer$Speech", "turns", "[I", true)
  | _ => ("RunSayer$Speech", "words", "[J", true)
def fY_9 : Nat → FieldType := fun k => match k with
  | 0 => .int
  | 1 => .int
  | 2 => .int
  | 3 => .array (.int)
  | _ => .array (.long)
theorem nm_9 : ∀ a, a < 5 → ∀ b, b < 5 → a ≠ b → (fT_9 a).2.1 ≠ (fT_9 b).2.1 := by decide +kernel
theorem ty_9 : ∀ k, k < 5 → parseFieldDescriptor (fT_9 k).2.2.1 = some (fY_9 k) := by decide +kernel
def fT_10 : u_T := fun k => match k with
  | 0 => ("RunSayer$Tape", "bytes", "[I", true)
  | 1 => ("RunSayer$Tape", "length", "I", false)
  | _ => ("RunSayer$Tape", "at", "I", false)
def fY_10 : Nat → FieldType := fun k => match k with
  | 0 => .array (.int)
  | 1 => .int
  | _ => .int
theorem nm_10 : ∀ a, a < 3 → ∀ b, b < 3 → a ≠ b → (fT_10 a).2.1 ≠ (fT_10 b).2.1 := by decide +kernel
theorem ty_10 : ∀ k, k < 3 → parseFieldDescriptor (fT_10 k).2.2.1 = some (fY_10 k) := by decide +kernel
def fT_11 : u_T := fun k => match k with
  | 0 => ("RunSayer", "city", "LRunSayer$City;", true)
  | 1 => ("RunSayer", "ledger", "LRunSayer$Ledger;", true)
  | 2 => ("RunSayer", "finder", "LRunSayer$Finder;", true)
  | 3 => ("RunSayer", "links", "LRunSayer$Links;", true)
  | 4 => ("RunSayer", "tape", "LRunSayer$Tape;", true)
  | 5 => ("RunSayer", "speech", "LRunSayer$Speech;", true)
  | 6 => ("RunSayer", "found", "LRunSayer$Route;", true)
  | 7 => ("RunSayer", "scratch", "[LRunSayer$Route;", true)
  | 8 => ("RunSayer", "said", "[LRunSayer$Route;", true)
  | 9 => ("RunSayer", "saidCount", "I", false)
  | 10 => ("RunSayer", "pupils", "[LRunSayer$Pupil;", true)
  | 11 => ("RunSayer", "pupilCount", "I", false)
  | 12 => ("RunSayer", "rules", "[LRunSayer$Rule;", true)
  | 13 => ("RunSayer", "ruleCount", "I", false)
  | 14 => ("RunSayer", "exams", "[LRunSayer$Exam;", true)
  | 15 => ("RunSayer", "examCount", "I", false)
  | 16 => ("RunSayer", "sheets", "[LRunSayer$Sheet;", true)
  | 17 => ("RunSayer", "planRow", "[I", true)
  | 18 => ("RunSayer", "planLength", "I", false)
  | _ => ("RunSayer", "takenCount", "I", false)
def fY_11 : Nat → FieldType := fun k => match k with
  | 0 => .object "RunSayer$City"
  | 1 => .object "RunSayer$Ledger"
  | 2 => .object "RunSayer$Finder"
  | 3 => .object "RunSayer$Links"
  | 4 => .object "RunSayer$Tape"
  | 5 => .object "RunSayer$Speech"
  | 6 => .object "RunSayer$Route"
  | 7 => .array (.object "RunSayer$Route")
  | 8 => .array (.object "RunSayer$Route")
  | 9 => .int
  | 10 => .array (.object "RunSayer$Pupil")
  | 11 => .int
  | 12 => .array (.object "RunSayer$Rule")
  | 13 => .int
  | 14 => .array (.object "RunSayer$Exam")
  | 15 => .int
  | 16 => .array (.object "RunSayer$Sheet")
  | 17 => .array (.int)
  | 18 => .int
  | _ => .int
theorem nm_11 : ∀ a, a < 20 → ∀ b, b < 20 → a ≠ b → (fT_11 a).2.1 ≠ (fT_11 b).2.1 := by decide +kernel
theorem ty_11 : ∀ k, k < 20 → parseFieldDescriptor (fT_11 k).2.2.1 = some (fY_11 k) := by decide +kernel
def fT_12 : u_T := fun k => match k with
  | 0 => ("RunSayerModel", "junctions", "I", false)
  | 1 => ("RunSayerModel", "px", "[I", true)
  | 2 => ("RunSayerModel", "py", "[I", true)
  | 3 => ("RunSayerModel", "isRing", "[Z", true)
  | 4 => ("RunSayerModel", "ways", "I", false)
  | 5 => ("RunSayerModel", "kind", "[I", true)
  | 6 => ("RunSayerModel", "wayA", "[I", true)
  | 7 => ("RunSayerModel", "wayB", "[I", true)
  | 8 => ("RunSayerModel", "feet", "[I", true)
  | 9 => ("RunSayerModel", "isOne", "[Z", true)
  | 10 => ("RunSayerModel", "doors", "I", false)
  | 11 => ("RunSayerModel", "doorWay", "[I", true)
  | 12 => ("RunSayerModel", "doorFeet", "[I", true)
  | 13 => ("RunSayerModel", "doorSide", "[I", true)
  | 14 => ("RunSayerModel", "today", "I", false)
  | 15 => ("RunSayerModel", "names", "I", false)
  | 16 => ("RunSayerModel", "nameWay", "[I", true)
  | 17 => ("RunSayerModel", "nameWord", "[J", true)
  | 18 => ("RunSayerModel", "nameDay", "[I", true)
  | 19 => ("RunSayerModel", "shuts", "I", false)
  | 20 => ("RunSayerModel", "shutWay", "[I", true)
  | 21 => ("RunSayerModel", "shutFrom", "[I", true)
  | 22 => ("RunSayerModel", "shutTo", "[I", true)
  | 23 => ("RunSayerModel", "shutDay", "[I", true)
  | 24 => ("RunSayerModel", "bans", "I", false)
  | 25 => ("RunSayerModel", "banFrom", "[I", true)
  | 26 => ("RunSayerModel", "banTo", "[I", true)
  | 27 => ("RunSayerModel", "banHour", "[I", true)
  | 28 => ("RunSayerModel", "banEnd", "[I", true)
  | 29 => ("RunSayerModel", "banDays", "[I", true)
  | 30 => ("RunSayerModel", "banDay", "[I", true)
  | 31 => ("RunSayerModel", "things", "I", false)
  | 32 => ("RunSayerModel", "thingSort", "[I", true)
  | 33 => ("RunSayerModel", "thingIs", "[I", true)
  | 34 => ("RunSayerModel", "takings", "I", false)
  | 35 => ("RunSayerModel", "tape", "[I", true)
  | 36 => ("RunSayerModel", "taped", "I", false)
  | 37 => ("RunSayerModel", "said", "I", false)
  | 38 => ("RunSayerModel", "saidMany", "[I", true)
  | 39 => ("RunSayerModel", "saidLegs", "[I", true)
  | 40 => ("RunSayerModel", "saidTold", "[I", true)
  | 41 => ("RunSayerModel", "pupils", "I", false)
  | 42 => ("RunSayerModel", "keeps", "[I", true)
  | 43 => ("RunSayerModel", "times", "[I", true)
  | 44 => ("RunSayerModel", "lastDay", "[I", true)
  | 45 => ("RunSayerModel", "rules", "I", false)
  | 46 => ("RunSayerModel", "ruleTakes", "[I", true)
  | 47 => ("RunSayerModel", "ruleMany", "[I", true)
  | 48 => ("RunSayerModel", "ruleTests", "[I", true)
  | 49 => ("RunSayerModel", "exams", "I", false)
  | 50 => ("RunSayerModel", "exam", "[I", true)
  | 51 => ("RunSayerModel", "examLegs", "[I", true)
  | 52 => ("RunSayerModel", "examFeet", "[J", true)
  | 53 => ("RunSayerModel", "sheetSort", "[I", true)
  | 54 => ("RunSayerModel", "sheetSize", "[I", true)
  | 55 => ("RunSayerModel", "cells", "[I", true)
  | 56 => ("RunSayerModel", "asker", "I", false)
  | 57 => ("RunSayerModel", "asDay", "I", false)
  | 58 => ("RunSayerModel", "asHour", "I", false)
  | 59 => ("RunSayerModel", "asKnown", "I", false)
  | 60 => ("RunSayerModel", "asBy", "I", false)
  | 61 => ("RunSayerModel", "twists", "[J", true)
  | 62 => ("RunSayerModel", "feetOf", "[J", true)
  | 63 => ("RunSayerModel", "found", "[I", true)
  | 64 => ("RunSayerModel", "foundMany", "I", false)
  | 65 => ("RunSayerModel", "foundTwists", "J", false)
  | 66 => ("RunSayerModel", "foundFeet", "J", false)
  | 67 => ("RunSayerModel", "sx", "I", false)
  | 68 => ("RunSayerModel", "sy", "I", false)
  | 69 => ("RunSayerModel", "gx", "I", false)
  | 70 => ("RunSayerModel", "gy", "I", false)
  | 71 => ("RunSayerModel", "toldLegs", "[I", true)
  | 72 => ("RunSayerModel", "toldMany", "I", false)
  | 73 => ("RunSayerModel", "toldTwists", "J", false)
  | 74 => ("RunSayerModel", "toldFeet", "J", false)
  | 75 => ("RunSayerModel", "at", "I", false)
  | 76 => ("RunSayerModel", "begun", "I", false)
  | 77 => ("RunSayerModel", "word", "J", false)
  | 78 => ("RunSayerModel", "turnMany", "I", false)
  | 79 => ("RunSayerModel", "turnHow", "[I", true)
  | 80 => ("RunSayerModel", "turnName", "[J", true)
  | 81 => ("RunSayerModel", "isUp", "Z", false)
  | 82 => ("RunSayerModel", "isLeft", "Z", false)
  | 83 => ("RunSayerModel", "driven", "[I", true)
  | 84 => ("RunSayerModel", "keptTimes", "[I", true)
  | 85 => ("RunSayerModel", "keptLast", "[I", true)
  | 86 => ("RunSayerModel", "runsOf", "[I", true)
  | 87 => ("RunSayerModel", "tryRow", "[I", true)
  | 88 => ("RunSayerModel", "planRow", "[I", true)
  | 89 => ("RunSayerModel", "planMany", "I", false)
  | 90 => ("RunSayerModel", "sayMany", "[I", true)
  | 91 => ("RunSayerModel", "sayLegs", "[I", true)
  | 92 => ("RunSayerModel", "isFaulty", "Z", false)
  | _ => ("RunSayerModel", "facts", "[J", true)
def fY_12 : Nat → FieldType := fun k => match k with
  | 0 => .int
  | 1 => .array (.int)
  | 2 => .array (.int)
  | 3 => .array (.boolean)
  | 4 => .int
  | 5 => .array (.int)
  | 6 => .array (.int)
  | 7 => .array (.int)
  | 8 => .array (.int)
  | 9 => .array (.boolean)
  | 10 => .int
  | 11 => .array (.int)
  | 12 => .array (.int)
  | 13 => .array (.int)
  | 14 => .int
  | 15 => .int
  | 16 => .array (.int)
  | 17 => .array (.long)
  | 18 => .array (.int)
  | 19 => .int
  | 20 => .array (.int)
  | 21 => .array (.int)
  | 22 => .array (.int)
  | 23 => .array (.int)
  | 24 => .int
  | 25 => .array (.int)
  | 26 => .array (.int)
  | 27 => .array (.int)
  | 28 => .array (.int)
  | 29 => .array (.int)
  | 30 => .array (.int)
  | 31 => .int
  | 32 => .array (.int)
  | 33 => .array (.int)
  | 34 => .int
  | 35 => .array (.int)
  | 36 => .int
  | 37 => .int
  | 38 => .array (.int)
  | 39 => .array (.int)
  | 40 => .array (.int)
  | 41 => .int
  | 42 => .array (.int)
  | 43 => .array (.int)
  | 44 => .array (.int)
  | 45 => .int
  | 46 => .array (.int)
  | 47 => .array (.int)
  | 48 => .array (.int)
  | 49 => .int
  | 50 => .array (.int)
  | 51 => .array (.int)
  | 52 => .array (.long)
  | 53 => .array (.int)
  | 54 => .array (.int)
  | 55 => .array (.int)
  | 56 => .int
  | 57 => .int
  | 58 => .int
  | 59 => .int
  | 60 => .int
  | 61 => .array (.long)
  | 62 => .array (.long)
  | 63 => .array (.int)
  | 64 => .int
  | 65 => .long
  | 66 => .long
  | 67 => .int
  | 68 => .int
  | 69 => .int
  | 70 => .int
  | 71 => .array (.int)
  | 72 => .int
  | 73 => .long
  | 74 => .long
  | 75 => .int
  | 76 => .int
  | 77 => .long
  | 78 => .int
  | 79 => .array (.int)
  | 80 => .array (.long)
  | 81 => .boolean
  | 82 => .boolean
  | 83 => .array (.int)
  | 84 => .array (.int)
  | 85 => .array (.int)
  | 86 => .array (.int)
  | 87 => .array (.int)
  | 88 => .array (.int)
  | 89 => .int
  | 90 => .array (.int)
  | 91 => .array (.int)
  | 92 => .boolean
  | _ => .array (.long)
theorem nm_12 : ∀ a, a < 94 → ∀ b, b < 94 → a ≠ b → (fT_12 a).2.1 ≠ (fT_12 b).2.1 := by decide +kernel
theorem ty_12 : ∀ k, k < 94 → parseFieldDescriptor (fT_12 k).2.2.1 = some (fY_12 k) := by decide +kernel
def am_cls : List vw_C := [("RunSayer$City", fT_0, 20), ("RunSayer$Exam", fT_1, 6), ("RunSayer$Finder", fT_2, 14), ("RunSayer$Ledger", fT_3, 17), ("RunSayer$Links", fT_4, 10), ("RunSayer$Pupil", fT_5, 3), ("RunSayer$Route", fT_6, 8), ("RunSayer$Rule", fT_7, 5), ("RunSayer$Sheet", fT_8, 3), ("RunSayer$Speech", fT_9, 5), ("RunSayer$Tape", fT_10, 3), ("RunSayer", fT_11, 20), ("RunSayerModel", fT_12, 94)]
def am_fT : Nat → u_T := fun c => match c with
  | 0 => fT_0
  | 1 => fT_1
  | 2 => fT_2
  | 3 => fT_3
  | 4 => fT_4
  | 5 => fT_5
  | 6 => fT_6
  | 7 => fT_7
  | 8 => fT_8
  | 9 => fT_9
  | 10 => fT_10
  | 11 => fT_11
  | _ => fT_12
def am_fY : Nat → Nat → FieldType := fun c => match c with
  | 0 => fY_0
  | 1 => fY_1
  | 2 => fY_2
  | 3 => fY_3
  | 4 => fY_4
  | 5 => fY_5
  | 6 => fY_6
  | 7 => fY_7
  | 8 => fY_8
  | 9 => fY_9
  | 10 => fY_10
  | 11 => fY_11
  | _ => fY_12
def am_nf : Nat → Nat := fun c => match c with
  | 0 => 20
  | 1 => 6
  | 2 => 14
  | 3 => 17
  | 4 => 10
  | 5 => 3
  | 6 => 8
  | 7 => 5
  | 8 => 3
  | 9 => 5
  | 10 => 3
  | 11 => 20
  | _ => 94
/-- 0 an int, 1 a boolean, 2 a long, 3 a reference -/
def am_ft (c k : Nat) : Nat := match am_fY c k with
  | .int => 0
  | .boolean => 1
  | .long => 2
  | _ => 3
def pr_lay (q : Nat × Nat) : Prop := u_lay (mO q.1) (am_fT q.1) q.2 ∈ lw_g
def tl_0 : List (Nat × Nat) := [(0, 0), (0, 1), (0, 2), (0, 3), (0, 4), (0, 5), (0, 6), (0, 7), (0, 8), (0, 9), (0, 10), (0, 11), (0, 12), (0, 13), (0, 14), (0, 15)]
theorem p_tl_0 : ∀ q ∈ tl_0, pr_lay q := List.forall_mem_cons.mpr ⟨in_1 (List.mem_of_getElem? (i := 68) rfl) rfl, List.forall_mem_cons.mpr ⟨in_1 (List.mem_of_getElem? (i := 70) rfl) rfl, List.forall_mem_cons.mpr ⟨in_1 (List.mem_of_getElem? (i := 72) rfl) rfl, List.forall_mem_cons.mpr ⟨in_1 (List.mem_of_getElem? (i := 74) rfl) rfl, List.forall_mem_cons.mpr ⟨in_1 (List.mem_of_getElem? (i := 76) rfl) rfl, List.forall_mem_cons.mpr ⟨in_1 (List.mem_of_getElem? (i := 78) rfl) rfl, List.forall_mem_cons.mpr ⟨in_1 (List.mem_of_getElem? (i := 80) rfl) rfl, List.forall_mem_cons.mpr ⟨in_1 (List.mem_of_getElem? (i := 82) rfl) rfl, List.forall_mem_cons.mpr ⟨in_1 (List.mem_of_getElem? (i := 84) rfl) rfl, List.forall_mem_cons.mpr ⟨in_1 (List.mem_of_getElem? (i := 86) rfl) rfl, List.forall_mem_cons.mpr ⟨in_1 (List.mem_of_getElem? (i := 88) rfl) rfl, List.forall_mem_cons.mpr ⟨in_1 (List.mem_of_getElem? (i := 90) rfl) rfl, List.forall_mem_cons.mpr ⟨in_1 (List.mem_of_getElem? (i := 92) rfl) rfl, List.forall_mem_cons.mpr ⟨in_1 (List.mem_of_getElem? (i := 94) rfl) rfl, List.forall_mem_cons.mpr ⟨in_1 (List.mem_of_getElem? (i := 96) rfl) rfl, List.forall_mem_cons.mpr ⟨in_1 (List.mem_of_getElem? (i := 98) rfl) rfl, fun _ h => absurd h List.not_mem_nil⟩⟩⟩⟩⟩⟩⟩⟩⟩⟩⟩⟩⟩⟩⟩⟩
def tl_1 : List (Nat × Nat) := [(0, 16), (0, 17), (0, 18), (0, 19), (1, 0), (1, 1), (1, 2), (1, 3), (1, 4), (1, 5), (2, 0), (2, 1), (2, 2), (2, 3), (2, 4), (2, 5)]
theorem p_tl_1 : ∀ q ∈ tl_1, pr_lay q := List.forall_mem_cons.mpr ⟨in_1 (List.mem_of_getElem? (i := 100) rfl) rfl, List.forall_mem_cons.mpr ⟨in_1 (List.mem_of_getElem? (i := 102) rfl) rfl, List.forall_mem_cons.mpr ⟨in_1 (List.mem_of_getElem? (i := 104) rfl) rfl, List.forall_mem_cons.mpr ⟨in_1 (List.mem_of_getElem? (i := 106) rfl) rfl, List.forall_mem_cons.mpr ⟨in_2 (List.mem_of_getElem? (i := 185) rfl) rfl, List.forall_mem_cons.mpr ⟨in_2 (List.mem_of_getElem? (i := 187) rfl) rfl, List.forall_mem_cons.mpr ⟨in_2 (List.mem_of_getElem? (i := 189) rfl) rfl, List.forall_mem_cons.mpr ⟨in_2 (List.mem_of_getElem? (i := 191) rfl) rfl, List.forall_mem_cons.mpr ⟨in_2 (List.mem_of_getElem? (i := 193) rfl) rfl, List.forall_mem_cons.mpr ⟨in_2 (List.mem_of_getElem? (i := 195) rfl) rfl, List.forall_mem_cons.mpr ⟨in_1 (List.mem_of_getElem? (i := 197) rfl) rfl, List.forall_mem_cons.mpr ⟨in_1 (List.mem_of_getElem? (i := 199) rfl) rfl, List.forall_mem_cons.mpr ⟨in_1 (List.mem_of_getElem? (i := 201) rfl) rfl, List.forall_mem_cons.mpr ⟨in_1 (List.mem_of_getElem? (i := 203) rfl) rfl, List.forall_mem_cons.mpr ⟨in_1 (List.mem_of_getElem? (i := 205) rfl) rfl, List.forall_mem_cons.mpr ⟨in_1 (List.mem_of_getElem? (i := 207) rfl) rfl, fun _ h => absurd h List.not_mem_nil⟩⟩⟩⟩⟩⟩⟩⟩⟩⟩⟩⟩⟩⟩⟩⟩
def tl_2 : List (Nat × Nat) := [(2, 6), (2, 7), (2, 8), (2, 9), (2, 10), (2, 11), (2, 12), (2, 13), (3, 0), (3, 1), (3, 2), (3, 3), (3, 4), (3, 5), (3, 6), (3, 7)]
theorem p_tl_2 : ∀ q ∈ tl_2, pr_lay q := List.forall_mem_cons.mpr ⟨in_1 (List.mem_of_getElem? (i := 209) rfl) rfl, List.forall_mem_cons.mpr ⟨in_1 (List.mem_of_getElem? (i := 211) rfl) rfl, List.forall_mem_cons.mpr ⟨in_1 (List.mem_of_getElem? (i := 213) rfl) rfl, List.forall_mem_cons.mpr ⟨in_1 (List.mem_of_getElem? (i := 215) rfl) rfl, List.forall_mem_cons.mpr ⟨in_1 (List.mem_of_getElem? (i := 217) rfl) rfl, List.forall_mem_cons.mpr ⟨in_1 (List.mem_of_getElem? (i := 219) rfl) rfl, List.forall_mem_cons.mpr ⟨in_1 (List.mem_of_getElem? (i := 221) rfl) rfl, List.forall_mem_cons.mpr ⟨in_1 (List.mem_of_getElem? (i := 223) rfl) rfl, List.forall_mem_cons.mpr ⟨in_1 (List.mem_of_getElem? (i := 141) rfl) rfl, List.forall_mem_cons.mpr ⟨in_1 (List.mem_of_getElem? (i := 143) rfl) rfl, List.forall_mem_cons.mpr ⟨in_1 (List.mem_of_getElem? (i := 145) rfl) rfl, List.forall_mem_cons.mpr ⟨in_1 (List.mem_of_getElem? (i := 147) rfl) rfl, List.forall_mem_cons.mpr ⟨in_1 (List.mem_of_getElem? (i := 149) rfl) rfl, List.forall_mem_cons.mpr ⟨in_1 (List.mem_of_getElem? (i := 151) rfl) rfl, List.forall_mem_cons.mpr ⟨in_1 (List.mem_of_getElem? (i := 153) rfl) rfl, List.forall_mem_cons.mpr ⟨in_1 (List.mem_of_getElem? (i := 155) rfl) rfl, fun _ h => absurd h List.not_mem_nil⟩⟩⟩⟩⟩⟩⟩⟩⟩⟩⟩⟩⟩⟩⟩⟩
def tl_3 : List (Nat × Nat) := [(3, 8), (3, 9), (3, 10), (3, 11), (3, 12), (3, 13), (3, 14), (3, 15), (3, 16), (4, 0), (4, 1), (4, 2), (4, 3), (4, 4), (4, 5), (4, 6)]
theorem p_tl_3 : ∀ q ∈ tl_3, pr_lay q := List.forall_mem_cons.mpr ⟨in_1 (List.mem_of_getElem? (i := 157) rfl) rfl, List.forall_mem_cons.mpr ⟨in_1 (List.mem_of_getElem? (i := 159) rfl) rfl, List.forall_mem_cons.mpr ⟨in_1 (List.mem_of_getElem? (i := 161) rfl) rfl, List.forall_mem_cons.mpr ⟨in_1 (List.mem_of_getElem? (i := 163) rfl) rfl, List.forall_mem_cons.mpr ⟨in_1 (List.mem_of_getElem? (i := 165) rfl) rfl, List.forall_mem_cons.mpr ⟨in_1 (List.mem_of_getElem? (i := 167) rfl) rfl, List.forall_mem_cons.mpr ⟨in_1 (List.mem_of_getElem? (i := 169) rfl) rfl, List.forall_mem_cons.mpr ⟨in_1 (List.mem_of_getElem? (i := 171) rfl) rfl, List.forall_mem_cons.mpr ⟨in_1 (List.mem_of_getElem? (i := 173) rfl) rfl, List.forall_mem_cons.mpr ⟨in_2 (List.mem_of_getElem? (i := 8) rfl) rfl, List.forall_mem_cons.mpr ⟨in_2 (List.mem_of_getElem? (i := 10) rfl) rfl, List.forall_mem_cons.mpr ⟨in_2 (List.mem_of_getElem? (i := 12) rfl) rfl, List.forall_mem_cons.mpr ⟨in_2 (List.mem_of_getElem? (i := 14) rfl) rfl, List.forall_mem_cons.mpr ⟨in_2 (List.mem_of_getElem? (i := 16) rfl) rfl, List.forall_mem_cons.mpr ⟨in_2 (List.mem_of_getElem? (i := 18) rfl) rfl, List.forall_mem_cons.mpr ⟨in_2 (List.mem_of_getElem? (i := 20) rfl) rfl, fun _ h => absurd h List.not_mem_nil⟩⟩⟩⟩⟩⟩⟩⟩⟩⟩⟩⟩⟩⟩⟩⟩
def tl_4 : List (Nat × Nat) := [(4, 7), (4, 8), (4, 9), (5, 0), (5, 1), (5, 2), (6, 0), (6, 1), (6, 2), (6, 3), (6, 4), (6, 5), (6, 6), (6, 7), (7, 0), (7, 1)]
theorem p_tl_4 : ∀ q ∈ tl_4, pr_lay q := List.forall_mem_cons.mpr ⟨in_2 (List.mem_of_getElem? (i := 22) rfl) rfl, List.forall_mem_cons.mpr ⟨in_2 (List.mem_of_getElem? (i := 24) rfl) rfl, List.forall_mem_cons.mpr ⟨in_2 (List.mem_of_getElem? (i := 26) rfl) rfl, List.forall_mem_cons.mpr ⟨in_2 (List.mem_of_getElem? (i := 137) rfl) rfl, List.forall_mem_cons.mpr ⟨in_2 (List.mem_of_getElem? (i := 139) rfl) rfl, List.forall_mem_cons.mpr ⟨in_2 (List.mem_of_getElem? (i := 141) rfl) rfl, List.forall_mem_cons.mpr ⟨in_2 (List.mem_of_getElem? (i := 106) rfl) rfl, List.forall_mem_cons.mpr ⟨in_2 (List.mem_of_getElem? (i := 108) rfl) rfl, List.forall_mem_cons.mpr ⟨in_2 (List.mem_of_getElem? (i := 110) rfl) rfl, List.forall_mem_cons.mpr ⟨in_2 (List.mem_of_getElem? (i := 112) rfl) rfl, List.forall_mem_cons.mpr ⟨in_2 (List.mem_of_getElem? (i := 114) rfl) rfl, List.forall_mem_cons.mpr ⟨in_2 (List.mem_of_getElem? (i := 116) rfl) rfl, List.forall_mem_cons.mpr ⟨in_2 (List.mem_of_getElem? (i := 118) rfl) rfl, List.forall_mem_cons.mpr ⟨in_2 (List.mem_of_getElem? (i := 120) rfl) rfl, List.forall_mem_cons.mpr ⟨in_2 (List.mem_of_getElem? (i := 157) rfl) rfl, List.forall_mem_cons.mpr ⟨in_2 (List.mem_of_getElem? (i := 159) rfl) rfl, fun _ h => absurd h List.not_mem_nil⟩⟩⟩⟩⟩⟩⟩⟩⟩⟩⟩⟩⟩⟩⟩⟩
def tl_5 : List (Nat × Nat) := [(7, 2), (7, 3), (7, 4), (8, 0), (8, 1), (8, 2), (9, 0), (9, 1), (9, 2), (9, 3), (9, 4), (10, 0), (10, 1), (10, 2), (11, 0), (11, 1)]
theorem p_tl_5 : ∀ q ∈ tl_5, pr_lay q := List.forall_mem_cons.mpr ⟨in_2 (List.mem_of_getElem? (i := 161) rfl) rfl, List.forall_mem_cons.mpr ⟨in_2 (List.mem_of_getElem? (i := 163) rfl) rfl, List.forall_mem_cons.mpr ⟨in_2 (List.mem_of_getElem? (i := 165) rfl) rfl, List.forall_mem_cons.mpr ⟨in_2 (List.mem_of_getElem? (i := 211) rfl) rfl, List.forall_mem_cons.mpr ⟨in_2 (List.mem_of_getElem? (i := 213) rfl) rfl, List.forall_mem_cons.mpr ⟨in_2 (List.mem_of_getElem? (i := 215) rfl) rfl, List.forall_mem_cons.mpr ⟨in_2 (List.mem_of_getElem? (i := 64) rfl) rfl, List.forall_mem_cons.mpr ⟨in_2 (List.mem_of_getElem? (i := 66) rfl) rfl, List.forall_mem_cons.mpr ⟨in_2 (List.mem_of_getElem? (i := 68) rfl) rfl, List.forall_mem_cons.mpr ⟨in_2 (List.mem_of_getElem? (i := 70) rfl) rfl, List.forall_mem_cons.mpr ⟨in_2 (List.mem_of_getElem? (i := 72) rfl) rfl, List.forall_mem_cons.mpr ⟨in_2 (List.mem_of_getElem? (i := 41) rfl) rfl, List.forall_mem_cons.mpr ⟨in_2 (List.mem_of_getElem? (i := 43) rfl) rfl, List.forall_mem_cons.mpr ⟨in_2 (List.mem_of_getElem? (i := 45) rfl) rfl, List.forall_mem_cons.mpr ⟨in_2 (List.mem_of_getElem? (i := 238) rfl) rfl, List.forall_mem_cons.mpr ⟨in_3 (List.mem_of_getElem? (i := 0) rfl) rfl, fun _ h => absurd h List.not_mem_nil⟩⟩⟩⟩⟩⟩⟩⟩⟩⟩⟩⟩⟩⟩⟩⟩
def tl_6 : List (Nat × Nat) := [(11, 2), (11, 3), (11, 4), (11, 5), (11, 6), (11, 7), (11, 8), (11, 9), (11, 10), (11, 11), (11, 12), (11, 13), (11, 14), (11, 15), (11, 16), (11, 17)]
theorem p_tl_6 : ∀ q ∈ tl_6, pr_lay q := List.forall_mem_cons.mpr ⟨in_3 (List.mem_of_getElem? (i := 2) rfl) rfl, List.forall_mem_cons.mpr ⟨in_3 (List.mem_of_getElem? (i := 4) rfl) rfl, List.forall_mem_cons.mpr ⟨in_3 (List.mem_of_getElem? (i := 6) rfl) rfl, List.forall_mem_cons.mpr ⟨in_3 (List.mem_of_getElem? (i := 8) rfl) rfl, List.forall_mem_cons.mpr ⟨in_3 (List.mem_of_getElem? (i := 10) rfl) rfl, List.forall_mem_cons.mpr ⟨in_3 (List.mem_of_getElem? (i := 12) rfl) rfl, List.forall_mem_cons.mpr ⟨in_3 (List.mem_of_getElem? (i := 14) rfl) rfl, List.forall_mem_cons.mpr ⟨in_3 (List.mem_of_getElem? (i := 16) rfl) rfl, List.forall_mem_cons.mpr ⟨in_3 (List.mem_of_getElem? (i := 18) rfl) rfl, List.forall_mem_cons.mpr ⟨in_3 (List.mem_of_getElem? (i := 20) rfl) rfl, List.forall_mem_cons.mpr ⟨in_3 (List.mem_of_getElem? (i := 22) rfl) rfl, List.forall_mem_cons.mpr ⟨in_3 (List.mem_of_getElem? (i := 24) rfl) rfl, List.forall_mem_cons.mpr ⟨in_3 (List.mem_of_getElem? (i := 26) rfl) rfl, List.forall_mem_cons.mpr ⟨in_3 (List.mem_of_getElem? (i := 28) rfl) rfl, List.forall_mem_cons.mpr ⟨in_3 (List.mem_of_getElem? (i := 30) rfl) rfl, List.forall_mem_cons.mpr ⟨in_3 (List.mem_of_getElem? (i := 32) rfl) rfl, fun _ h => absurd h List.not_mem_nil⟩⟩⟩⟩⟩⟩⟩⟩⟩⟩⟩⟩⟩⟩⟩⟩
def tl_7 : List (Nat × Nat) := [(11, 18), (11, 19), (12, 0), (12, 1), (12, 2), (12, 3), (12, 4), (12, 5), (12, 6), (12, 7), (12, 8), (12, 9), (12, 10), (12, 11), (12, 12), (12, 13)]
theorem p_tl_7 : ∀ q ∈ tl_7, pr_lay q := List.forall_mem_cons.mpr ⟨in_3 (List.mem_of_getElem? (i := 34) rfl) rfl, List.forall_mem_cons.mpr ⟨in_3 (List.mem_of_getElem? (i := 36) rfl) rfl, List.forall_mem_cons.mpr ⟨in_6 (List.mem_of_getElem? (i := 155) rfl) rfl, List.forall_mem_cons.mpr ⟨in_6 (List.mem_of_getElem? (i := 157) rfl) rfl, List.forall_mem_cons.mpr ⟨in_6 (List.mem_of_getElem? (i := 159) rfl) rfl, List.forall_mem_cons.mpr ⟨in_6 (List.mem_of_getElem? (i := 161) rfl) rfl, List.forall_mem_cons.mpr ⟨in_6 (List.mem_of_getElem? (i := 163) rfl) rfl, List.forall_mem_cons.mpr ⟨in_6 (List.mem_of_getElem? (i := 165) rfl) rfl, List.forall_mem_cons.mpr ⟨in_6 (List.mem_of_getElem? (i := 167) rfl) rfl, List.forall_mem_cons.mpr ⟨in_6 (List.mem_of_getElem? (i := 169) rfl) rfl, List.forall_mem_cons.mpr ⟨in_6 (List.mem_of_getElem? (i := 171) rfl) rfl, List.forall_mem_cons.mpr ⟨in_6 (List.mem_of_getElem? (i := 173) rfl) rfl, List.forall_mem_cons.mpr ⟨in_6 (List.mem_of_getElem? (i := 175) rfl) rfl, List.forall_mem_cons.mpr ⟨in_6 (List.mem_of_getElem? (i := 177) rfl) rfl, List.forall_mem_cons.mpr ⟨in_6 (List.mem_of_getElem? (i := 179) rfl) rfl, List.forall_mem_cons.mpr ⟨in_6 (List.mem_of_getElem? (i := 181) rfl) rfl, fun _ h => absurd h List.not_mem_nil⟩⟩⟩⟩⟩⟩⟩⟩⟩⟩⟩⟩⟩⟩⟩⟩
def tl_8 : List (Nat × Nat) := [(12, 14), (12, 15), (12, 16), (12, 17), (12, 18), (12, 19), (12, 20), (12, 21), (12, 22), (12, 23), (12, 24), (12, 25), (12, 26), (12, 27), (12, 28), (12, 29)]
theorem p_tl_8 : ∀ q ∈ tl_8, pr_lay q := List.forall_mem_cons.mpr ⟨in_6 (List.mem_of_getElem? (i := 183) rfl) rfl, List.forall_mem_cons.mpr ⟨in_6 (List.mem_of_getElem? (i := 185) rfl) rfl, List.forall_mem_cons.mpr ⟨in_6 (List.mem_of_getElem? (i := 187) rfl) rfl, List.forall_mem_cons.mpr ⟨in_6 (List.mem_of_getElem? (i := 189) rfl) rfl, List.forall_mem_cons.mpr ⟨in_6 (List.mem_of_getElem? (i := 191) rfl) rfl, List.forall_mem_cons.mpr ⟨in_6 (List.mem_of_getElem? (i := 193) rfl) rfl, List.forall_mem_cons.mpr ⟨in_6 (List.mem_of_getElem? (i := 195) rfl) rfl, List.forall_mem_cons.mpr ⟨in_6 (List.mem_of_getElem? (i := 197) rfl) rfl, List.forall_mem_cons.mpr ⟨in_6 (List.mem_of_getElem? (i := 199) rfl) rfl, List.forall_mem_cons.mpr ⟨in_6 (List.mem_of_getElem? (i := 201) rfl) rfl, List.forall_mem_cons.mpr ⟨in_6 (List.mem_of_getElem? (i := 203) rfl) rfl, List.forall_mem_cons.mpr ⟨in_6 (List.mem_of_getElem? (i := 205) rfl) rfl, List.forall_mem_cons.mpr ⟨in_6 (List.mem_of_getElem? (i := 207) rfl) rfl, List.forall_mem_cons.mpr ⟨in_6 (List.mem_of_getElem? (i := 209) rfl) rfl, List.forall_mem_cons.mpr ⟨in_6 (List.mem_of_getElem? (i := 211) rfl) rfl, List.forall_mem_cons.mpr ⟨in_6 (List.mem_of_getElem? (i := 213) rfl) rfl, fun _ h => absurd h List.not_mem_nil⟩⟩⟩⟩⟩⟩⟩⟩⟩⟩⟩⟩⟩⟩⟩⟩
def tl_9 : List (Nat × Nat) := [(12, 30), (12, 31), (12, 32), (12, 33), (12, 34), (12, 35), (12, 36), (12, 37), (12, 38), (12, 39), (12, 40), (12, 41), (12, 42), (12, 43), (12, 44), (12, 45)]
theorem p_tl_9 : ∀ q ∈ tl_9, pr_lay q := List.forall_mem_cons.mpr ⟨in_6 (List.mem_of_getElem? (i := 215) rfl) rfl, List.forall_mem_cons.mpr ⟨in_6 (List.mem_of_getElem? (i := 217) rfl) rfl, List.forall_mem_cons.mpr ⟨in_6 (List.mem_of_getElem? (i := 219) rfl) rfl, List.forall_mem_cons.mpr ⟨in_6 (List.mem_of_getElem? (i := 221) rfl) rfl, List.forall_mem_cons.mpr ⟨in_6 (List.mem_of_getElem? (i := 223) rfl) rfl, List.forall_mem_cons.mpr ⟨in_6 (List.mem_of_getElem? (i := 225) rfl) rfl, List.forall_mem_cons.mpr ⟨in_6 (List.mem_of_getElem? (i := 227) rfl) rfl, List.forall_mem_cons.mpr ⟨in_6 (List.mem_of_getElem? (i := 229) rfl) rfl, List.forall_mem_cons.mpr ⟨in_6 (List.mem_of_getElem? (i := 231) rfl) rfl, List.forall_mem_cons.mpr ⟨in_6 (List.mem_of_getElem? (i := 233) rfl) rfl, List.forall_mem_cons.mpr ⟨in_6 (List.mem_of_getElem? (i := 235) rfl) rfl, List.forall_mem_cons.mpr ⟨in_6 (List.mem_of_getElem? (i := 237) rfl) rfl, List.forall_mem_cons.mpr ⟨in_6 (List.mem_of_getElem? (i := 239) rfl) rfl, List.forall_mem_cons.mpr ⟨in_7 (List.mem_of_getElem? (i := 1) rfl) rfl, List.forall_mem_cons.mpr ⟨in_7 (List.mem_of_getElem? (i := 3) rfl) rfl, List.forall_mem_cons.mpr ⟨in_7 (List.mem_of_getElem? (i := 5) rfl) rfl, fun _ h => absurd h List.not_mem_nil⟩⟩⟩⟩⟩⟩⟩⟩⟩⟩⟩⟩⟩⟩⟩⟩
def tl_10 : List (Nat × Nat) := [(12, 46), (12, 47), (12, 48), (12, 49), (12, 50), (12, 51), (12, 52), (12, 53), (12, 54), (12, 55), (12, 56), (12, 57), (12, 58), (12, 59), (12, 60), (12, 61)]
theorem p_tl_10 : ∀ q ∈ tl_10, pr_lay q := List.forall_mem_cons.mpr ⟨in_7 (List.mem_of_getElem? (i := 7) rfl) rfl, List.forall_mem_cons.mpr ⟨in_7 (List.mem_of_getElem? (i := 9) rfl) rfl, List.forall_mem_cons.mpr ⟨in_7 (List.mem_of_getElem? (i := 11) rfl) rfl, List.forall_mem_cons.mpr ⟨in_7 (List.mem_of_getElem? (i := 13) rfl) rfl, List.forall_mem_cons.mpr ⟨in_7 (List.mem_of_getElem? (i := 15) rfl) rfl, List.forall_mem_cons.mpr ⟨in_7 (List.mem_of_getElem? (i := 17) rfl) rfl, List.forall_mem_cons.mpr ⟨in_7 (List.mem_of_getElem? (i := 19) rfl) rfl, List.forall_mem_cons.mpr ⟨in_7 (List.mem_of_getElem? (i := 21) rfl) rfl, List.forall_mem_cons.mpr ⟨in_7 (List.mem_of_getElem? (i := 23) rfl) rfl, List.forall_mem_cons.mpr ⟨in_7 (List.mem_of_getElem? (i := 25) rfl) rfl, List.forall_mem_cons.mpr ⟨in_7 (List.mem_of_getElem? (i := 27) rfl) rfl, List.forall_mem_cons.mpr ⟨in_7 (List.mem_of_getElem? (i := 29) rfl) rfl, List.forall_mem_cons.mpr ⟨in_7 (List.mem_of_getElem? (i := 31) rfl) rfl, List.forall_mem_cons.mpr ⟨in_7 (List.mem_of_getElem? (i := 33) rfl) rfl, List.forall_mem_cons.mpr ⟨in_7 (List.mem_of_getElem? (i := 35) rfl) rfl, List.forall_mem_cons.mpr ⟨in_7 (List.mem_of_getElem? (i := 37) rfl) rfl, fun _ h => absurd h List.not_mem_nil⟩⟩⟩⟩⟩⟩⟩⟩⟩⟩⟩⟩⟩⟩⟩⟩
def tl_11 : List (Nat × Nat) := [(12, 62), (12, 63), (12, 64), (12, 65), (12, 66), (12, 67), (12, 68), (12, 69), (12, 70), (12, 71), (12, 72), (12, 73), (12, 74), (12, 75), (12, 76), (12, 77)]
theorem p_tl_11 : ∀ q ∈ tl_11, pr_lay q := List.forall_mem_cons.mpr ⟨in_7 (List.mem_of_getElem? (i := 39) rfl) rfl, List.forall_mem_cons.mpr ⟨in_7 (List.mem_of_getElem? (i := 41) rfl) rfl, List.forall_mem_cons.mpr ⟨in_7 (List.mem_of_getElem? (i := 43) rfl) rfl, List.forall_mem_cons.mpr ⟨in_7 (List.mem_of_getElem? (i := 45) rfl) rfl, List.forall_mem_cons.mpr ⟨in_7 (List.mem_of_getElem? (i := 47) rfl) rfl, List.forall_mem_cons.mpr ⟨in_7 (List.mem_of_getElem? (i := 49) rfl) rfl, List.forall_mem_cons.mpr ⟨in_7 (List.mem_of_getElem? (i := 51) rfl) rfl, List.forall_mem_cons.mpr ⟨in_7 (List.mem_of_getElem? (i := 53) rfl) rfl, List.forall_mem_cons.mpr ⟨in_7 (List.mem_of_getElem? (i := 55) rfl) rfl, List.forall_mem_cons.mpr ⟨in_7 (List.mem_of_getElem? (i := 57) rfl) rfl, List.forall_mem_cons.mpr ⟨in_7 (List.mem_of_getElem? (i := 59) rfl) rfl, List.forall_mem_cons.mpr ⟨in_7 (List.mem_of_getElem? (i := 61) rfl) rfl, List.forall_mem_cons.mpr ⟨in_7 (List.mem_of_getElem? (i := 63) rfl) rfl, List.forall_mem_cons.mpr ⟨in_7 (List.mem_of_getElem? (i := 65) rfl) rfl, List.forall_mem_cons.mpr ⟨in_7 (List.mem_of_getElem? (i := 67) rfl) rfl, List.forall_mem_cons.mpr ⟨in_7 (List.mem_of_getElem? (i := 69) rfl) rfl, fun _ h => absurd h List.not_mem_nil⟩⟩⟩⟩⟩⟩⟩⟩⟩⟩⟩⟩⟩⟩⟩⟩
def tl_12 : List (Nat × Nat) := [(12, 78), (12, 79), (12, 80), (12, 81), (12, 82), (12, 83), (12, 84), (12, 85), (12, 86), (12, 87), (12, 88), (12, 89), (12, 90), (12, 91), (12, 92), (12, 93)]
theorem p_tl_12 : ∀ q ∈ tl_12, pr_lay q := List.forall_mem_cons.mpr ⟨in_7 (List.mem_of_getElem? (i := 71) rfl) rfl, List.forall_mem_cons.mpr ⟨in_7 (List.mem_of_getElem? (i := 73) rfl) rfl, List.forall_mem_cons.mpr ⟨in_7 (List.mem_of_getElem? (i := 75) rfl) rfl, List.forall_mem_cons.mpr ⟨in_7 (List.mem_of_getElem? (i := 77) rfl) rfl, List.forall_mem_cons.mpr ⟨in_7 (List.mem_of_getElem? (i := 79) rfl) rfl, List.forall_mem_cons.mpr ⟨in_7 (List.mem_of_getElem? (i := 81) rfl) rfl, List.forall_mem_cons.mpr ⟨in_7 (List.mem_of_getElem? (i := 83) rfl) rfl, List.forall_mem_cons.mpr ⟨in_7 (List.mem_of_getElem? (i := 85) rfl) rfl, List.forall_mem_cons.mpr ⟨in_7 (List.mem_of_getElem? (i := 87) rfl) rfl, List.forall_mem_cons.mpr ⟨in_7 (List.mem_of_getElem? (i := 89) rfl) rfl, List.forall_mem_cons.mpr ⟨in_7 (List.mem_of_getElem? (i := 91) rfl) rfl, List.forall_mem_cons.mpr ⟨in_7 (List.mem_of_getElem? (i := 93) rfl) rfl, List.forall_mem_cons.mpr ⟨in_7 (List.mem_of_getElem? (i := 95) rfl) rfl, List.forall_mem_cons.mpr ⟨in_7 (List.mem_of_getElem? (i := 97) rfl) rfl, List.forall_mem_cons.mpr ⟨in_7 (List.mem_of_getElem? (i := 99) rfl) rfl, List.forall_mem_cons.mpr ⟨in_7 (List.mem_of_getElem? (i := 101) rfl) rfl, fun _ h => absurd h List.not_mem_nil⟩⟩⟩⟩⟩⟩⟩⟩⟩⟩⟩⟩⟩⟩⟩⟩
def tl : List (Nat × Nat) := tl_0 ++ (tl_1 ++ (tl_2 ++ (tl_3 ++ (tl_4 ++ (tl_5 ++ (tl_6 ++ (tl_7 ++ (tl_8 ++ (tl_9 ++ (tl_10 ++ (tl_11 ++ (tl_12))))))))))))
theorem p_tl : ∀ q ∈ tl, pr_lay q := List.forall_mem_append.mpr ⟨p_tl_0, List.forall_mem_append.mpr ⟨p_tl_1, List.forall_mem_append.mpr ⟨p_tl_2, List.forall_mem_append.mpr ⟨p_tl_3, List.forall_mem_append.mpr ⟨p_tl_4, List.forall_mem_append.mpr ⟨p_tl_5, List.forall_mem_append.mpr ⟨p_tl_6, List.forall_mem_append.mpr ⟨p_tl_7, List.forall_mem_append.mpr ⟨p_tl_8, List.forall_mem_append.mpr ⟨p_tl_9, List.forall_mem_append.mpr ⟨p_tl_10, List.forall_mem_append.mpr ⟨p_tl_11, p_tl_12⟩⟩⟩⟩⟩⟩⟩⟩⟩⟩⟩⟩
def pr_o (q : Nat × Nat) : Prop := (am_fT q.1 q.2).1 = mO q.1
theorem p_to_0 : ∀ q ∈ tl_0, pr_o q := List.forall_mem_cons.mpr ⟨rfl, List.forall_mem_cons.mpr ⟨rfl, List.forall_mem_cons.mpr ⟨rfl, List.forall_mem_cons.mpr ⟨rfl, List.forall_mem_cons.mpr ⟨rfl, List.forall_mem_cons.mpr ⟨rfl, List.forall_mem_cons.mpr ⟨rfl, List.forall_mem_cons.mpr ⟨rfl, List.forall_mem_cons.mpr ⟨rfl, List.forall_mem_cons.mpr ⟨rfl, List.forall_mem_cons.mpr ⟨rfl, List.forall_mem_cons.mpr ⟨rfl, List.forall_mem_cons.mpr ⟨rfl, List.forall_mem_cons.mpr ⟨rfl, List.forall_mem_cons.mpr ⟨rfl, List.forall_mem_cons.mpr ⟨rfl, fun _ h => absurd h List.not_mem_nil⟩⟩⟩⟩⟩⟩⟩⟩⟩⟩⟩⟩⟩⟩⟩⟩
theorem p_to_1 : ∀ q ∈ tl_1, pr_o q := List.forall_mem_cons.mpr ⟨rfl, List.forall_mem_cons.mpr ⟨rfl, List.forall_mem_cons.mpr ⟨rfl, List.forall_mem_cons.mpr ⟨rfl, List.forall_mem_cons.mpr ⟨rfl, List.forall_mem_cons.mpr ⟨rfl, List.forall_mem_cons.mpr ⟨rfl, List.forall_mem_cons.mpr ⟨rfl, List.forall_mem_cons.mpr ⟨rfl, List.forall_mem_cons.mpr ⟨rfl, List.forall_mem_cons.mpr ⟨rfl, List.forall_mem_cons.mpr ⟨rfl, List.forall_mem_cons.mpr ⟨rfl, List.forall_mem_cons.mpr ⟨rfl, List.forall_mem_cons.mpr ⟨rfl, List.forall_mem_cons.mpr ⟨rfl, fun _ h => absurd h List.not_mem_nil⟩⟩⟩⟩⟩⟩⟩⟩⟩⟩⟩⟩⟩⟩⟩⟩
theorem p_to_2 : ∀ q ∈ tl_2, pr_o q := List.forall_mem_cons.mpr ⟨rfl, List.forall_mem_cons.mpr ⟨rfl, List.forall_mem_cons.mpr ⟨rfl, List.forall_mem_cons.mpr ⟨rfl, List.forall_mem_cons.mpr ⟨rfl, List.forall_mem_cons.mpr ⟨rfl, List.forall_mem_cons.mpr ⟨rfl, List.forall_mem_cons.mpr ⟨rfl, List.forall_mem_cons.mpr ⟨rfl, List.forall_mem_cons.mpr ⟨rfl, List.forall_mem_cons.mpr ⟨rfl, List.forall_mem_cons.mpr ⟨rfl, List.forall_mem_cons.mpr ⟨rfl, List.forall_mem_cons.mpr ⟨rfl, List.forall_mem_cons.mpr ⟨rfl, List.forall_mem_cons.mpr ⟨rfl, fun _ h => absurd h List.not_mem_nil⟩⟩⟩⟩⟩⟩⟩⟩⟩⟩⟩⟩⟩⟩⟩⟩
theorem p_to_3 : ∀ q ∈ tl_3, pr_o q := List.forall_mem_cons.mpr ⟨rfl, List.forall_mem_cons.mpr ⟨rfl, List.forall_mem_cons.mpr ⟨rfl, List.forall_mem_cons.mpr ⟨rfl, List.forall_mem_cons.mpr ⟨rfl, List.forall_mem_cons.mpr ⟨rfl, List.forall_mem_cons.mpr ⟨rfl, List.forall_mem_cons.mpr ⟨rfl, List.forall_mem_cons.mpr ⟨rfl, List.forall_mem_cons.mpr ⟨rfl, List.forall_mem_cons.mpr ⟨rfl, List.forall_mem_cons.mpr ⟨rfl, List.forall_mem_cons.mpr ⟨rfl, List.forall_mem_cons.mpr ⟨rfl, List.forall_mem_cons.mpr ⟨rfl, List.forall_mem_cons.mpr ⟨rfl, fun _ h => absurd h List.not_mem_nil⟩⟩⟩⟩⟩⟩⟩⟩⟩⟩⟩⟩⟩⟩⟩⟩
theorem p_to_4 : ∀ q ∈ tl_4, pr_o q := List.forall_mem_cons.mpr ⟨rfl, List.forall_mem_cons.mpr ⟨rfl, List.forall_mem_cons.mpr ⟨rfl, List.forall_mem_cons.mpr ⟨rfl, List.forall_mem_cons.mpr ⟨rfl, List.forall_mem_cons.mpr ⟨rfl, List.forall_mem_cons.mpr ⟨rfl, List.forall_mem_cons.mpr ⟨rfl, List.forall_mem_cons.mpr ⟨rfl, List.forall_mem_cons.mpr ⟨rfl, List.forall_mem_cons.mpr ⟨rfl, List.forall_mem_cons.mpr ⟨rfl, List.forall_mem_cons.mpr ⟨rfl, List.forall_mem_cons.mpr ⟨rfl, List.forall_mem_cons.mpr ⟨rfl, List.forall_mem_cons.mpr ⟨rfl, fun _ h => absurd h List.not_mem_nil⟩⟩⟩⟩⟩⟩⟩⟩⟩⟩⟩⟩⟩⟩⟩⟩
theorem p_to_5 : ∀ q ∈ tl_5, pr_o q := List.forall_mem_cons.mpr ⟨rfl, List.forall_mem_cons.mpr ⟨rfl, List.forall_mem_cons.mpr ⟨rfl, List.forall_mem_cons.mpr ⟨rfl, List.forall_mem_cons.mpr ⟨rfl, List.forall_mem_cons.mpr ⟨rfl, List.forall_mem_cons.mpr ⟨rfl, List.forall_mem_cons.mpr ⟨rfl, List.forall_mem_cons.mpr ⟨rfl, List.forall_mem_cons.mpr ⟨rfl, List.forall_mem_cons.mpr ⟨rfl, List.forall_mem_cons.mpr ⟨rfl, List.forall_mem_cons.mpr ⟨rfl, List.forall_mem_cons.mpr ⟨rfl, List.forall_mem_cons.mpr ⟨rfl, List.forall_mem_cons.mpr ⟨rfl, fun _ h => absurd h List.not_mem_nil⟩⟩⟩⟩⟩⟩⟩⟩⟩⟩⟩⟩⟩⟩⟩⟩
theorem p_to_6 : ∀ q ∈ tl_6, pr_o q := List.forall_mem_cons.mpr ⟨rfl, List.forall_mem_cons.mpr ⟨rfl, List.forall_mem_cons.mpr ⟨rfl, List.forall_mem_cons.mpr ⟨rfl, List.forall_mem_cons.mpr ⟨rfl, List.forall_mem_cons.mpr ⟨rfl, List.forall_mem_cons.mpr ⟨rfl, List.forall_mem_cons.mpr ⟨rfl, List.forall_mem_cons.mpr ⟨rfl, List.forall_mem_cons.mpr ⟨rfl, List.forall_mem_cons.mpr ⟨rfl, List.forall_mem_cons.mpr ⟨rfl, List.forall_mem_cons.mpr ⟨rfl, List.forall_mem_cons.mpr ⟨rfl, List.forall_mem_cons.mpr ⟨rfl, List.forall_mem_cons.mpr ⟨rfl, fun _ h => absurd h List.not_mem_nil⟩⟩⟩⟩⟩⟩⟩⟩⟩⟩⟩⟩⟩⟩⟩⟩
theorem p_to_7 : ∀ q ∈ tl_7, pr_o q := List.forall_mem_cons.mpr ⟨rfl, List.forall_mem_cons.mpr ⟨rfl, List.forall_mem_cons.mpr ⟨rfl, List.forall_mem_cons.mpr ⟨rfl, List.forall_mem_cons.mpr ⟨rfl, List.forall_mem_cons.mpr ⟨rfl, List.forall_mem_cons.mpr ⟨rfl, List.forall_mem_cons.mpr ⟨rfl, List.forall_mem_cons.mpr ⟨rfl, List.forall_mem_cons.mpr ⟨rfl, List.forall_mem_cons.mpr ⟨rfl, List.forall_mem_cons.mpr ⟨rfl, List.forall_mem_cons.mpr ⟨rfl, List.forall_mem_cons.mpr ⟨rfl, List.forall_mem_cons.mpr ⟨rfl, List.forall_mem_cons.mpr ⟨rfl, fun _ h => absurd h List.not_mem_nil⟩⟩⟩⟩⟩⟩⟩⟩⟩⟩⟩⟩⟩⟩⟩⟩
theorem p_to_8 : ∀ q ∈ tl_8, pr_o q := List.forall_mem_cons.mpr ⟨rfl, List.forall_mem_cons.mpr ⟨rfl, List.forall_mem_cons.mpr ⟨rfl, List.forall_mem_cons.mpr ⟨rfl, List.forall_mem_cons.mpr ⟨rfl, List.forall_mem_cons.mpr ⟨rfl, List.forall_mem_cons.mpr ⟨rfl, List.forall_mem_cons.mpr ⟨rfl, List.forall_mem_cons.mpr ⟨rfl, List.forall_mem_cons.mpr ⟨rfl, List.forall_mem_cons.mpr ⟨rfl, List.forall_mem_cons.mpr ⟨rfl, List.forall_mem_cons.mpr ⟨rfl, List.forall_mem_cons.mpr ⟨rfl, List.forall_mem_cons.mpr ⟨rfl, List.forall_mem_cons.mpr ⟨rfl, fun _ h => absurd h List.not_mem_nil⟩⟩⟩⟩⟩⟩⟩⟩⟩⟩⟩⟩⟩⟩⟩⟩
theorem p_to_9 : ∀ q ∈ tl_9, pr_o q := List.forall_mem_cons.mpr ⟨rfl, List.forall_mem_cons.mpr ⟨rfl, List.forall_mem_cons.mpr ⟨rfl, List.forall_mem_cons.mpr ⟨rfl, List.forall_mem_cons.mpr ⟨rfl, List.forall_mem_cons.mpr ⟨rfl, List.forall_mem_cons.mpr ⟨rfl, List.forall_mem_cons.mpr ⟨rfl, List.forall_mem_cons.mpr ⟨rfl, List.forall_mem_cons.mpr ⟨rfl, List.forall_mem_cons.mpr ⟨rfl, List.forall_mem_cons.mpr ⟨rfl, List.forall_mem_cons.mpr ⟨rfl, List.forall_mem_cons.mpr ⟨rfl, List.forall_mem_cons.mpr ⟨rfl, List.forall_mem_cons.mpr ⟨rfl, fun _ h => absurd h List.not_mem_nil⟩⟩⟩⟩⟩⟩⟩⟩⟩⟩⟩⟩⟩⟩⟩⟩
theorem p_to_10 : ∀ q ∈ tl_10, pr_o q := List.forall_mem_cons.mpr ⟨rfl, List.forall_mem_cons.mpr ⟨rfl, List.forall_mem_cons.mpr ⟨rfl, List.forall_mem_cons.mpr ⟨rfl, List.forall_mem_cons.mpr ⟨rfl, List.forall_mem_cons.mpr ⟨rfl, List.forall_mem_cons.mpr ⟨rfl, List.forall_mem_cons.mpr ⟨rfl, List.forall_mem_cons.mpr ⟨rfl, List.forall_mem_cons.mpr ⟨rfl, List.forall_mem_cons.mpr ⟨rfl, List.forall_mem_cons.mpr ⟨rfl, List.forall_mem_cons.mpr ⟨rfl, List.forall_mem_cons.mpr ⟨rfl, List.forall_mem_cons.mpr ⟨rfl, List.forall_mem_cons.mpr ⟨rfl, fun _ h => absurd h List.not_mem_nil⟩⟩⟩⟩⟩⟩⟩⟩⟩⟩⟩⟩⟩⟩⟩⟩
theorem p_to_11 : ∀ q ∈ tl_11, pr_o q := List.forall_mem_cons.mpr ⟨rfl, List.forall_mem_cons.mpr ⟨rfl, List.forall_mem_cons.mpr ⟨rfl, List.forall_mem_cons.mpr ⟨rfl, List.forall_mem_cons.mpr ⟨rfl, List.forall_mem_cons.mpr ⟨rfl, List.forall_mem_cons.mpr ⟨rfl, List.forall_mem_cons.mpr ⟨rfl, List.forall_mem_cons.mpr ⟨rfl, List.forall_mem_cons.mpr ⟨rfl, List.forall_mem_cons.mpr ⟨rfl, List.forall_mem_cons.mpr ⟨rfl, List.forall_mem_cons.mpr ⟨rfl, List.forall_mem_cons.mpr ⟨rfl, List.forall_mem_cons.mpr ⟨rfl, List.forall_mem_cons.mpr ⟨rfl, fun _ h => absurd h List.not_mem_nil⟩⟩⟩⟩⟩⟩⟩⟩⟩⟩⟩⟩⟩⟩⟩⟩
theorem p_to_12 : ∀ q ∈ tl_12, pr_o q := List.forall_mem_cons.mpr ⟨rfl, List.forall_mem_cons.mpr ⟨rfl, List.forall_mem_cons.mpr ⟨rfl, List.forall_mem_cons.mpr ⟨rfl, List.forall_mem_cons.mpr ⟨rfl, List.forall_mem_cons.mpr ⟨rfl, List.forall_mem_cons.mpr ⟨rfl, List.forall_mem_cons.mpr ⟨rfl, List.forall_mem_cons.mpr ⟨rfl, List.forall_mem_cons.mpr ⟨rfl, List.forall_mem_cons.mpr ⟨rfl, List.forall_mem_cons.mpr ⟨rfl, List.forall_mem_cons.mpr ⟨rfl, List.forall_mem_cons.mpr ⟨rfl, List.forall_mem_cons.mpr ⟨rfl, List.forall_mem_cons.mpr ⟨rfl, fun _ h => absurd h List.not_mem_nil⟩⟩⟩⟩⟩⟩⟩⟩⟩⟩⟩⟩⟩⟩⟩⟩
theorem p_to : ∀ q ∈ tl, pr_o q := List.forall_mem_append.mpr ⟨p_to_0, List.forall_mem_append.mpr ⟨p_to_1, List.forall_mem_append.mpr ⟨p_to_2, List.forall_mem_append.mpr ⟨p_to_3, List.forall_mem_append.mpr ⟨p_to_4, List.forall_mem_append.mpr ⟨p_to_5, List.forall_mem_append.mpr ⟨p_to_6, List.forall_mem_append.mpr ⟨p_to_7, List.forall_mem_append.mpr ⟨p_to_8, List.forall_mem_append.mpr ⟨p_to_9, List.forall_mem_append.mpr ⟨p_to_10, List.forall_mem_append.mpr ⟨p_to_11, p_to_12⟩⟩⟩⟩⟩⟩⟩⟩⟩⟩⟩⟩
def pr_ins (q : Nat × Nat) : Prop := Cond.instantiable (mO q.1) q.2 ∈ lw_g
def ti_0 : List (Nat × Nat) := [(0, 20), (1, 6), (2, 14), (3, 17), (4, 10), (5, 3), (6, 8), (7, 5), (8, 3), (9, 5), (10, 3), (11, 20), (12, 94)]
theorem p_ti_0 : ∀ q ∈ ti_0, pr_ins q := List.forall_mem_cons.mpr ⟨in_1 (List.mem_of_getElem? (i := 30) rfl) rfl, List.forall_mem_cons.mpr ⟨in_2 (List.mem_of_getElem? (i := 170) rfl) rfl, List.forall_mem_cons.mpr ⟨in_1 (List.mem_of_getElem? (i := 178) rfl) rfl, List.forall_mem_cons.mpr ⟨in_1 (List.mem_of_getElem? (i := 111) rfl) rfl, List.forall_mem_cons.mpr ⟨in_1 (List.mem_of_getElem? (i := 228) rfl) rfl, List.forall_mem_cons.mpr ⟨in_2 (List.mem_of_getElem? (i := 126) rfl) rfl, List.forall_mem_cons.mpr ⟨in_2 (List.mem_of_getElem? (i := 76) rfl) rfl, List.forall_mem_cons.mpr ⟨in_2 (List.mem_of_getElem? (i := 146) rfl) rfl, List.forall_mem_cons.mpr ⟨in_2 (List.mem_of_getElem? (i := 200) rfl) rfl, List.forall_mem_cons.mpr ⟨in_2 (List.mem_of_getElem? (i := 49) rfl) rfl, List.forall_mem_cons.mpr ⟨in_2 (List.mem_of_getElem? (i := 30) rfl) rfl, List.forall_mem_cons.mpr ⟨in_1 (List.mem_of_getElem? (i := 22) rfl) rfl, List.forall_mem_cons.mpr ⟨in_6 (List.mem_of_getElem? (i := 56) rfl) rfl, fun _ h => absurd h List.not_mem_nil⟩⟩⟩⟩⟩⟩⟩⟩⟩⟩⟩⟩⟩
def ti : List (Nat × Nat) := ti_0
theorem p_ti : ∀ q ∈ ti, pr_ins q := p_ti_0
def pr_ini (q : Nat) : Prop := Cond.initialized (mO q) ∈ lw_g
def tn_0 : List (Nat) := [0, 1, 2, 3, 4, 5, 6, 7, 8, 9, 10, 11, 12, 13, 14, 15]
theorem p_tn_0 : ∀ q ∈ tn_0, pr_ini q := List.forall_mem_cons.mpr ⟨in_1 (List.mem_of_getElem? (i := 2) rfl) rfl, List.forall_mem_cons.mpr ⟨in_1 (List.mem_of_getElem? (i := 11) rfl) rfl, List.forall_mem_cons.mpr ⟨in_1 (List.mem_of_getElem? (i := 4) rfl) rfl, List.forall_mem_cons.mpr ⟨in_1 (List.mem_of_getElem? (i := 3) rfl) rfl, List.forall_mem_cons.mpr ⟨in_1 (List.mem_of_getElem? (i := 5) rfl) rfl, List.forall_mem_cons.mpr ⟨in_1 (List.mem_of_getElem? (i := 9) rfl) rfl, List.forall_mem_cons.mpr ⟨in_1 (List.mem_of_getElem? (i := 8) rfl) rfl, List.forall_mem_cons.mpr ⟨in_1 (List.mem_of_getElem? (i := 10) rfl) rfl, List.forall_mem_cons.mpr ⟨in_1 (List.mem_of_getElem? (i := 12) rfl) rfl, List.forall_mem_cons.mpr ⟨in_1 (List.mem_of_getElem? (i := 7) rfl) rfl, List.forall_mem_cons.mpr ⟨in_1 (List.mem_of_getElem? (i := 6) rfl) rfl, List.forall_mem_cons.mpr ⟨in_1 (List.mem_of_getElem? (i := 1) rfl) rfl, List.forall_mem_cons.mpr ⟨in_1 (List.mem_of_getElem? (i := 13) rfl) rfl, List.forall_mem_cons.mpr ⟨in_1 (List.mem_of_getElem? (i := 16) rfl) rfl, List.forall_mem_cons.mpr ⟨in_1 (List.mem_of_getElem? (i := 15) rfl) rfl, List.forall_mem_cons.mpr ⟨in_1 (List.mem_of_getElem? (i := 14) rfl) rfl, fun _ h => absurd h List.not_mem_nil⟩⟩⟩⟩⟩⟩⟩⟩⟩⟩⟩⟩⟩⟩⟩⟩
def tn_1 : List (Nat) := [16, 17, 18]
theorem p_tn_1 : ∀ q ∈ tn_1, pr_ini q := List.forall_mem_cons.mpr ⟨in_1 (List.mem_of_getElem? (i := 17) rfl) rfl, List.forall_mem_cons.mpr ⟨in_1 (List.mem_of_getElem? (i := 18) rfl) rfl, List.forall_mem_cons.mpr ⟨in_1 (List.mem_of_getElem? (i := 0) rfl) rfl, fun _ h => absurd h List.not_mem_nil⟩⟩⟩
def tn : List (Nat) := tn_0 ++ (tn_1)
theorem p_tn : ∀ q ∈ tn, pr_ini q := List.forall_mem_append.mpr ⟨p_tn_0, p_tn_1⟩
/-- name, code, locals, what it answers, rank, how many parameters, static, owner -/
abbrev am_Y : Type := MethodName × ByteArray × Nat × Option FieldType × Nat × Nat × Bool × Nat
def mY0 : am_Y := (⟨"", "", ""⟩, ⟨#[]⟩, 0, none, 0, 0, false, 0)
def mY_0 : List am_Y := [(⟨"RunSayer$City", "addLeg", "(III)V"⟩, prog_2_method_7_code, 4, none, 0, 3, false, 0),
  (⟨"RunSayer$City", "addThing", "(II)V"⟩, prog_2_method_6_code, 3, none, 0, 2, false, 0),
  (⟨"RunSayer$City", "cross", "(II)I"⟩, prog_2_method_21_code, 3, some (.int), 0, 2, false, 0),
  (⟨"RunSayer$City", "dot", "(II)I"⟩, prog_2_method_22_code, 3, some (.int), 0, 2, false, 0),
  (⟨"RunSayer$City", "endOf", "(I)I"⟩, prog_2_method_16_code, 2, some (.int), 0, 1, false, 0),
  (⟨"RunSayer$City", "feetAhead", "(III)I"⟩, prog_2_method_25_code, 5, some (.int), 0, 3, false, 0),
  (⟨"RunSayer$City", "feetFromStart", "(II)I"⟩, prog_2_method_24_code, 3, some (.int), 0, 2, false, 0),
  (⟨"RunSayer$City", "feetToEnd", "(II)I"⟩, prog_2_method_23_code, 3, some (.int), 0, 2, false, 0),
  (⟨"RunSayer$City", "isOfKind", "(II)Z"⟩, prog_2_method_10_code, 4, some (.boolean), 0, 2, true, 0),
  (⟨"RunSayer$City", "isOpen", "(II)Z"⟩, prog_2_method_13_code, 3, some (.boolean), 0, 2, false, 0),
  (⟨"RunSayer$City", "legCount", "()I"⟩, prog_2_method_2_code, 1, some (.int), 0, 0, false, 0),
  (⟨"RunSayer$City", "outLeg", "(II)I"⟩, prog_2_method_8_code, 3, some (.int), 0, 2, false, 0),
  (⟨"RunSayer$City", "priceOf", "(II)I"⟩, prog_2_method_12_code, 7, some (.int), 0, 2, false, 0),
  (⟨"RunSayer$City", "startOf", "(I)I"⟩, prog_2_method_15_code, 2, some (.int), 0, 1, false, 0),
  (⟨"RunSayer$Exam", "compare", "(LRunSayer$Route;)V"⟩, prog_3_method_3_code, 2, none, 0, 1, false, 1),
  (⟨"RunSayer$Exam", "fieldName", "(I)Ljava/lang/String;"⟩, prog_3_method_2_code, 1, some (.object "java/lang/String"), 0, 1, true, 1),
  (⟨"RunSayer$Finder", "costThrough", "(I)J"⟩, prog_4_method_16_code, 2, some (.long), 0, 1, false, 2),
  (⟨"RunSayer$Finder", "key", "(II)J"⟩, prog_4_method_15_code, 3, some (.long), 0, 2, false, 2),
  (⟨"RunSayer$Finder", "mark", "(II)V"⟩, prog_4_method_5_code, 4, none, 0, 2, false, 2),
  (⟨"RunSayer$Finder", "mayTurn", "(II)Z"⟩, prog_4_method_7_code, 3, some (.boolean), 0, 2, false, 2),
  (⟨"RunSayer$Finder", "nearest", "(I)I"⟩, prog_4_method_13_code, 6, some (.int), 0, 1, false, 2),
  (⟨"RunSayer$Finder", "unmark", "()V"⟩, prog_4_method_6_code, 2, none, 0, 0, false, 2),
  (⟨"java/lang/Integer", "bitCount", "(I)I"⟩, prog_15_method_49_code, 1, some (.int), 0, 1, true, 14),
  (⟨"java/lang/Math", "abs", "(I)I"⟩, prog_16_method_59_code, 1, some (.int), 0, 1, true, 15),
  (⟨"java/lang/Math", "max", "(II)I"⟩, prog_16_method_65_code, 2, some (.int), 0, 2, true, 15),
  (⟨"java/lang/Math", "min", "(II)I"⟩, prog_16_method_69_code, 2, some (.int), 0, 2, true, 15),
  (⟨"java/lang/Math", "min", "(JJ)J"⟩, prog_16_method_70_code, 4, some (.long), 0, 2, true, 15),
  (⟨"jdk/internal/util/Preconditions", "checkIndex", "(IILjava/util/function/BiFunction;)I"⟩, prog_21_method_11_code, 3, some (.int), 0, 3, true, 17),
  (⟨"java/lang/String", "coder", "()B"⟩, prog_17_method_152_code, 1, some (.byte), 0, 0, false, 13),
  (⟨"java/lang/String", "isLatin1", "()Z"⟩, prog_17_method_154_code, 1, some (.boolean), 0, 0, false, 13),
  (⟨"RunSayer$Ledger", "addBan", "(IIIII)I"⟩, prog_5_method_7_code, 6, some (.int), 0, 5, false, 3),
  (⟨"RunSayer$Ledger", "addName", "(IJ)I"⟩, prog_5_method_3_code, 4, some (.int), 0, 2, false, 3),
  (⟨"RunSayer$Ledger", "addShut", "(III)I"⟩, prog_5_method_5_code, 4, some (.int), 0, 3, false, 3),
  (⟨"RunSayer$Ledger", "answersTo", "(IJI)Z"⟩, prog_5_method_4_code, 6, some (.boolean), 0, 3, false, 3),
  (⟨"RunSayer$Ledger", "isBanOn", "(III)Z"⟩, prog_5_method_8_code, 4, some (.boolean), 0, 3, false, 3),
  (⟨"RunSayer$Ledger", "isShut", "(III)Z"⟩, prog_5_method_6_code, 5, some (.boolean), 0, 3, false, 3),
  (⟨"RunSayer$Links", "chooseRow", "(II)V"⟩, prog_6_method_10_code, 5, none, 0, 2, false, 4),
  (⟨"RunSayer$Links", "gather", "(I)V"⟩, prog_6_method_8_code, 4, none, 0, 1, false, 4),
  (⟨"RunSayer$Links", "isInRun", "(II)Z"⟩, prog_6_method_5_code, 4, some (.boolean), 0, 2, false, 4),
  (⟨"RunSayer$Links", "numberOf", "(II)I"⟩, prog_6_method_2_code, 3, some (.int), 0, 2, false, 4)]
def mY_1 : List am_Y := [(⟨"RunSayerModel", "answersTo", "(IJI)Z"⟩, prog_14_method_23_code, 6, some (.boolean), 0, 3, false, 12),
  (⟨"RunSayerModel", "areAlike", "(II)Z"⟩, prog_14_method_89_code, 4, some (.boolean), 0, 2, false, 12),
  (⟨"RunSayerModel", "asPupil", "(II)V"⟩, prog_14_method_52_code, 3, none, 0, 2, false, 12),
  (⟨"RunSayerModel", "asReal", "(IIII)V"⟩, prog_14_method_51_code, 5, none, 0, 4, false, 12),
  (⟨"RunSayerModel", "begin", "(I)I"⟩, prog_14_method_8_code, 2, some (.int), 0, 1, false, 12),
  (⟨"RunSayerModel", "between", "(III)I"⟩, prog_14_method_46_code, 5, some (.int), 0, 3, false, 12),
  (⟨"RunSayerModel", "comes", "(II)I"⟩, prog_14_method_13_code, 3, some (.int), 0, 2, false, 12),
  (⟨"RunSayerModel", "cost", "(I)J"⟩, prog_14_method_57_code, 2, some (.long), 0, 1, false, 12),
  (⟨"RunSayerModel", "count", "(I)I"⟩, prog_14_method_103_code, 2, some (.int), 0, 1, false, 12),
  (⟨"RunSayerModel", "cross", "(IIII)I"⟩, prog_14_method_33_code, 4, some (.int), 0, 4, true, 12),
  (⟨"RunSayerModel", "end", "(I)I"⟩, prog_14_method_9_code, 2, some (.int), 0, 1, false, 12),
  (⟨"RunSayerModel", "fromDoor", "(II)I"⟩, prog_14_method_44_code, 3, some (.int), 0, 2, false, 12),
  (⟨"RunSayerModel", "here", "()I"⟩, prog_14_method_92_code, 1, some (.int), 0, 0, false, 12),
  (⟨"RunSayerModel", "in", "(III)Z"⟩, prog_14_method_3_code, 3, some (.boolean), 0, 3, true, 12),
  (⟨"RunSayerModel", "isBanned", "(IIII)Z"⟩, prog_14_method_29_code, 7, some (.boolean), 0, 4, false, 12),
  (⟨"RunSayerModel", "isHeld", "(IIII)Z"⟩, prog_14_method_41_code, 6, some (.boolean), 0, 4, false, 12),
  (⟨"RunSayerModel", "isLess", "(JJJJ)Z"⟩, prog_14_method_43_code, 9, some (.boolean), 0, 4, false, 12),
  (⟨"RunSayerModel", "isShut", "(III)Z"⟩, prog_14_method_26_code, 5, some (.boolean), 0, 3, false, 12),
  (⟨"RunSayerModel", "isUnder", "(II)Z"⟩, prog_14_method_19_code, 2, some (.boolean), 0, 2, true, 12),
  (⟨"RunSayerModel", "laysBack", "(IZ)V"⟩, prog_14_method_86_code, 4, none, 0, 2, false, 12),
  (⟨"RunSayerModel", "linkOf", "(II)I"⟩, prog_14_method_80_code, 5, some (.int), 0, 2, false, 12),
  (⟨"RunSayerModel", "skips", "()V"⟩, prog_14_method_64_code, 1, none, 0, 0, false, 12),
  (⟨"RunSayerModel", "tells", "()I"⟩, prog_14_method_53_code, 2, some (.int), 0, 0, false, 12),
  (⟨"RunSayerModel", "toDoor", "(II)I"⟩, prog_14_method_45_code, 3, some (.int), 0, 2, false, 12),
  (⟨"RunSayerModel", "wipe", "()I"⟩, prog_14_method_62_code, 2, some (.int), 0, 0, false, 12),
  (⟨"RunSayerModel", "wordOf", "(IIIII)J"⟩, prog_14_method_63_code, 7, some (.long), 0, 5, true, 12),
  (⟨"RunSayer$Route", "add", "(I)V"⟩, prog_8_method_4_code, 2, none, 0, 1, false, 6),
  (⟨"RunSayer$Route", "begin", "(II)V"⟩, prog_8_method_2_code, 3, none, 0, 2, false, 6),
  (⟨"RunSayer$Route", "isLike", "(LRunSayer$Route;)Z"⟩, prog_8_method_5_code, 3, some (.boolean), 0, 1, false, 6),
  (⟨"RunSayer$Route", "setTime", "(II)V"⟩, prog_8_method_3_code, 3, none, 0, 2, false, 6),
  (⟨"RunSayer$Rule", "signOf", "(I)I"⟩, prog_9_method_6_code, 1, some (.int), 0, 1, true, 7),
  (⟨"RunSayer", "count", "(I)I"⟩, prog_1_method_39_code, 2, some (.int), 0, 1, false, 11),
  (⟨"RunSayer", "outside", "(III)Z"⟩, prog_1_method_45_code, 3, some (.boolean), 0, 3, true, 11),
  (⟨"RunSayer$Sheet", "become", "(II)V"⟩, prog_10_method_2_code, 4, none, 0, 2, false, 8),
  (⟨"RunSayer$Sheet", "hasRow", "(II)Z"⟩, prog_10_method_4_code, 3, some (.boolean), 0, 2, false, 8),
  (⟨"RunSayer$Sheet", "put", "(II)V"⟩, prog_10_method_3_code, 3, none, 0, 2, false, 8),
  (⟨"RunSayer$Speech", "turnOf", "(J)I"⟩, prog_11_method_4_code, 2, some (.int), 0, 1, true, 9),
  (⟨"RunSayer$Tape", "append", "(JI)V"⟩, prog_12_method_4_code, 5, none, 0, 2, false, 10),
  (⟨"RunSayer$Tape", "clear", "()V"⟩, prog_12_method_5_code, 1, none, 0, 0, false, 10),
  (⟨"RunSayer$Tape", "isAtEnd", "()Z"⟩, prog_12_method_7_code, 1, some (.boolean), 0, 0, false, 10)]
def mY_2 : List am_Y := [(⟨"RunSayer$Tape", "isDigit", "(I)Z"⟩, prog_12_method_3_code, 1, some (.boolean), 0, 1, true, 10),
  (⟨"RunSayer$Tape", "isLetter", "(I)Z"⟩, prog_12_method_2_code, 1, some (.boolean), 0, 1, true, 10),
  (⟨"RunSayer$Tape", "signAt", "(I)I"⟩, prog_12_method_6_code, 2, some (.int), 0, 1, false, 10),
  (⟨"RunSayer$City", "addDoor", "(III)I"⟩, prog_2_method_5_code, 5, some (.int), 1, 3, false, 0),
  (⟨"RunSayer$City", "addJunction", "(III)I"⟩, prog_2_method_3_code, 5, some (.int), 1, 3, false, 0),
  (⟨"RunSayer$City", "addWay", "(IIIII)I"⟩, prog_2_method_4_code, 7, some (.int), 1, 5, false, 0),
  (⟨"RunSayer$City", "follows", "(II)Z"⟩, prog_2_method_17_code, 3, some (.boolean), 1, 2, false, 0),
  (⟨"RunSayer$City", "isInFirstHalf", "(II)Z"⟩, prog_2_method_20_code, 4, some (.boolean), 1, 2, false, 0),
  (⟨"RunSayer$City", "isPassable", "(II)Z"⟩, prog_2_method_14_code, 4, some (.boolean), 1, 2, false, 0),
  (⟨"RunSayer$City", "takeThing", "(II)I"⟩, prog_2_method_9_code, 5, some (.int), 1, 2, false, 0),
  (⟨"RunSayer$City", "tellWay", "(III)I"⟩, prog_2_method_11_code, 4, some (.int), 1, 3, false, 0),
  (⟨"RunSayer$Exam", "valueOf", "(I)I"⟩, prog_3_method_4_code, 2, some (.int), 1, 1, false, 1),
  (⟨"RunSayer$Finder", "allows", "(LRunSayer$Route;)Z"⟩, prog_4_method_8_code, 3, some (.boolean), 1, 1, false, 2),
  (⟨"RunSayer$Finder", "costAlone", "(III)J"⟩, prog_4_method_17_code, 5, some (.long), 1, 3, false, 2),
  (⟨"RunSayer$Finder", "isRightAt", "(I[II)Z"⟩, prog_4_method_24_code, 9, some (.boolean), 1, 3, false, 2),
  (⟨"RunSayer$Finder", "leastByProof", "([III)J"⟩, prog_4_method_25_code, 8, some (.long), 1, 3, false, 2),
  (⟨"RunSayer$Finder", "nextLeg", "(I)I"⟩, prog_4_method_20_code, 5, some (.int), 1, 1, false, 2),
  (⟨"RunSayer$Finder", "offer", "(IJ)V"⟩, prog_4_method_14_code, 7, none, 1, 2, false, 2),
  (⟨"RunSayer$Finder", "stretchString", "(II)V"⟩, prog_4_method_10_code, 8, none, 1, 2, false, 2),
  (⟨"RunSayer$Finder", "weighLegs", "(I)V"⟩, prog_4_method_12_code, 3, none, 1, 1, false, 2),
  (⟨"RunSayer$Finder", "whyNotInto", "(II)I"⟩, prog_4_method_28_code, 3, some (.int), 1, 2, false, 2),
  (⟨"RunSayer$Finder", "whyNotSetDown", "(ILRunSayer$Route;I)I"⟩, prog_4_method_29_code, 5, some (.int), 1, 3, false, 2),
  (⟨"java/lang/String", "checkIndex", "(II)V"⟩, prog_17_method_155_code, 2, none, 1, 2, true, 13),
  (⟨"java/lang/String", "length", "()I"⟩, prog_17_method_54_code, 1, some (.int), 1, 0, false, 13),
  (⟨"RunSayer$Ledger", "isWord", "(J)Z"⟩, prog_5_method_2_code, 5, some (.boolean), 1, 1, true, 3),
  (⟨"RunSayer$Links", "numberedLink", "(II)I"⟩, prog_6_method_4_code, 3, some (.int), 1, 2, false, 4),
  (⟨"RunSayerModel", "cell", "(III)I"⟩, prog_14_method_105_code, 4, some (.int), 1, 3, false, 12),
  (⟨"RunSayerModel", "copy", "(IIIII)I"⟩, prog_14_method_107_code, 10, some (.int), 1, 5, false, 12),
  (⟨"RunSayerModel", "dx", "(I)I"⟩, prog_14_method_31_code, 2, some (.int), 1, 1, false, 12),
  (⟨"RunSayerModel", "dy", "(I)I"⟩, prog_14_method_32_code, 2, some (.int), 1, 1, false, 12),
  (⟨"RunSayerModel", "eats", "(I)V"⟩, prog_14_method_93_code, 2, none, 1, 1, false, 12),
  (⟨"RunSayerModel", "examTold", "(II)I"⟩, prog_14_method_101_code, 3, some (.int), 1, 2, false, 12),
  (⟨"RunSayerModel", "feed", "(JI)I"⟩, prog_14_method_61_code, 5, some (.int), 1, 2, false, 12),
  (⟨"RunSayerModel", "follows", "(II)Z"⟩, prog_14_method_10_code, 3, some (.boolean), 1, 2, false, 12),
  (⟨"RunSayerModel", "heldOn", "(II)I"⟩, prog_14_method_79_code, 5, some (.int), 1, 2, false, 12),
  (⟨"RunSayerModel", "isDoor", "(I)Z"⟩, prog_14_method_7_code, 2, some (.boolean), 1, 1, false, 12),
  (⟨"RunSayerModel", "isHour", "(I)Z"⟩, prog_14_method_4_code, 1, some (.boolean), 1, 1, true, 12),
  (⟨"RunSayerModel", "isLeg", "(I)Z"⟩, prog_14_method_6_code, 2, some (.boolean), 1, 1, false, 12),
  (⟨"RunSayerModel", "isOpen", "(II)Z"⟩, prog_14_method_12_code, 3, some (.boolean), 1, 2, false, 12),
  (⟨"RunSayerModel", "isPupil", "(I)Z"⟩, prog_14_method_77_code, 2, some (.boolean), 1, 1, false, 12)]
def mY_3 : List am_Y := [(⟨"RunSayerModel", "isSaid", "(IIIII)Z"⟩, prog_14_method_66_code, 6, some (.boolean), 1, 5, false, 12),
  (⟨"RunSayerModel", "isSaidRun", "(I)Z"⟩, prog_14_method_78_code, 2, some (.boolean), 1, 1, false, 12),
  (⟨"RunSayerModel", "isWay", "(I)Z"⟩, prog_14_method_5_code, 2, some (.boolean), 1, 1, false, 12),
  (⟨"RunSayerModel", "isWord", "(J)Z"⟩, prog_14_method_21_code, 6, some (.boolean), 1, 1, true, 12),
  (⟨"RunSayerModel", "junction", "(III)I"⟩, prog_14_method_14_code, 5, some (.int), 1, 3, false, 12),
  (⟨"RunSayerModel", "leg", "(I)I"⟩, prog_14_method_56_code, 2, some (.int), 1, 1, false, 12),
  (⟨"RunSayerModel", "number", "()I"⟩, prog_14_method_95_code, 3, some (.int), 1, 0, false, 12),
  (⟨"RunSayerModel", "off", "(I)J"⟩, prog_14_method_47_code, 3, some (.long), 1, 1, false, 12),
  (⟨"RunSayerModel", "pass", "(I)I"⟩, prog_14_method_30_code, 2, some (.int), 1, 1, false, 12),
  (⟨"RunSayerModel", "planned", "(I)I"⟩, prog_14_method_88_code, 2, some (.int), 1, 1, false, 12),
  (⟨"RunSayerModel", "priceOf", "(II)I"⟩, prog_14_method_11_code, 5, some (.int), 1, 2, false, 12),
  (⟨"RunSayerModel", "pupil", "(I)I"⟩, prog_14_method_76_code, 2, some (.int), 1, 1, false, 12),
  (⟨"RunSayerModel", "quarter", "(IIII)I"⟩, prog_14_method_34_code, 5, some (.int), 1, 4, true, 12),
  (⟨"RunSayerModel", "read", "(II)I"⟩, prog_14_method_106_code, 3, some (.int), 1, 2, false, 12),
  (⟨"RunSayerModel", "reads", "()V"⟩, prog_14_method_65_code, 2, none, 1, 0, false, 12),
  (⟨"RunSayerModel", "rides", "(III)V"⟩, prog_14_method_81_code, 7, none, 1, 3, false, 12),
  (⟨"RunSayerModel", "ring", "(II)I"⟩, prog_14_method_15_code, 4, some (.int), 1, 2, false, 12),
  (⟨"RunSayerModel", "run", "(II)I"⟩, prog_14_method_74_code, 3, some (.int), 1, 2, false, 12),
  (⟨"RunSayerModel", "runTold", "(II)I"⟩, prog_14_method_75_code, 3, some (.int), 1, 2, false, 12),
  (⟨"RunSayerModel", "sheet", "(III)I"⟩, prog_14_method_104_code, 5, some (.int), 1, 3, false, 12),
  (⟨"RunSayerModel", "taken", "(II)I"⟩, prog_14_method_20_code, 5, some (.int), 1, 2, false, 12),
  (⟨"RunSayerModel", "way", "(IIIII)I"⟩, prog_14_method_16_code, 6, some (.int), 1, 5, false, 12),
  (⟨"RunSayerModel", "whyLast", "(II)I"⟩, prog_14_method_71_code, 4, some (.int), 1, 2, false, 12),
  (⟨"RunSayer$Pupil", "rideLink", "(II)V"⟩, prog_7_method_2_code, 3, none, 1, 2, false, 5),
  (⟨"RunSayer$Pupil", "wouldHold", "(III)Z"⟩, prog_7_method_4_code, 4, some (.boolean), 1, 3, false, 5),
  (⟨"RunSayer", "examTold", "(II)I"⟩, prog_1_method_37_code, 3, some (.int), 1, 2, false, 11),
  (⟨"RunSayer", "feed", "(JI)I"⟩, prog_1_method_22_code, 4, some (.int), 1, 2, false, 11),
  (⟨"RunSayer", "leg", "(I)I"⟩, prog_1_method_18_code, 2, some (.int), 1, 1, false, 11),
  (⟨"RunSayer", "noBit", "(I)Z"⟩, prog_1_method_46_code, 1, some (.boolean), 1, 1, true, 11),
  (⟨"RunSayer", "noDoors", "(II)Z"⟩, prog_1_method_51_code, 3, some (.boolean), 1, 2, false, 11),
  (⟨"RunSayer", "noHour", "(I)Z"⟩, prog_1_method_47_code, 1, some (.boolean), 1, 1, true, 11),
  (⟨"RunSayer", "noLeg", "(I)Z"⟩, prog_1_method_50_code, 2, some (.boolean), 1, 1, false, 11),
  (⟨"RunSayer", "noPupil", "(I)Z"⟩, prog_1_method_52_code, 2, some (.boolean), 1, 1, false, 11),
  (⟨"RunSayer", "noSheet", "(I)Z"⟩, prog_1_method_48_code, 1, some (.boolean), 1, 1, true, 11),
  (⟨"RunSayer", "noWay", "(I)Z"⟩, prog_1_method_49_code, 2, some (.boolean), 1, 1, false, 11),
  (⟨"RunSayer", "notKnown", "(I)Z"⟩, prog_1_method_53_code, 2, some (.boolean), 1, 1, false, 11),
  (⟨"RunSayer", "pass", "(I)I"⟩, prog_1_method_13_code, 2, some (.int), 1, 1, false, 11),
  (⟨"RunSayer", "planned", "(I)I"⟩, prog_1_method_33_code, 2, some (.int), 1, 1, false, 11),
  (⟨"RunSayer", "pupil", "(I)I"⟩, prog_1_method_27_code, 2, some (.int), 1, 1, false, 11),
  (⟨"RunSayer", "run", "(II)I"⟩, prog_1_method_25_code, 3, some (.int), 1, 2, false, 11)]
def mY_4 : List am_Y := [(⟨"RunSayer", "runTold", "(II)I"⟩, prog_1_method_26_code, 3, some (.int), 1, 2, false, 11),
  (⟨"RunSayer", "wipe", "()I"⟩, prog_1_method_23_code, 2, some (.int), 1, 0, false, 11),
  (⟨"RunSayer$Tape", "skipBlanks", "()V"⟩, prog_12_method_8_code, 1, none, 1, 0, false, 10),
  (⟨"RunSayer$Tape", "takeLoneDigit", "()I"⟩, prog_12_method_10_code, 2, some (.int), 1, 0, false, 10),
  (⟨"RunSayer$Tape", "takeNumber", "()I"⟩, prog_12_method_11_code, 3, some (.int), 1, 0, false, 10),
  (⟨"RunSayer$Tape", "takeWord", "()J"⟩, prog_12_method_9_code, 4, some (.long), 1, 0, false, 10),
  (⟨"RunSayer$City", "exitsAhead", "(II)I"⟩, prog_2_method_19_code, 10, some (.int), 2, 2, false, 0),
  (⟨"RunSayer$Finder", "costFrom", "(III)J"⟩, prog_4_method_18_code, 6, some (.long), 2, 3, false, 2),
  (⟨"RunSayer$Finder", "firstWrong", "([II)I"⟩, prog_4_method_23_code, 4, some (.int), 2, 2, false, 2),
  (⟨"RunSayer$Finder", "measure", "(LRunSayer$Route;)V"⟩, prog_4_method_21_code, 4, none, 2, 1, false, 2),
  (⟨"RunSayer$Finder", "setHour", "(I)V"⟩, prog_4_method_3_code, 3, none, 2, 1, false, 2),
  (⟨"RunSayer$Finder", "spread", "(IIZ)V"⟩, prog_4_method_11_code, 8, none, 2, 3, false, 2),
  (⟨"RunSayer$Finder", "trace", "(LRunSayer$Route;IJ)V"⟩, prog_4_method_19_code, 8, none, 2, 3, false, 2),
  (⟨"java/lang/StringLatin1", "charAt", "([BI)C"⟩, prog_18_method_2_code, 2, some (.char), 2, 2, true, 16),
  (⟨"RunSayer$Links", "addRun", "(ILRunSayer$Route;)V"⟩, prog_6_method_3_code, 5, none, 2, 2, false, 4),
  (⟨"RunSayer$Links", "heldAfter", "(LRunSayer$Pupil;III)I"⟩, prog_6_method_11_code, 10, some (.int), 2, 4, false, 4),
  (⟨"RunSayer$Links", "rideRun", "(LRunSayer$Pupil;II)V"⟩, prog_6_method_6_code, 5, none, 2, 3, false, 4),
  (⟨"RunSayerModel", "about", "(III)I"⟩, prog_14_method_18_code, 4, some (.int), 2, 3, false, 12),
  (⟨"RunSayerModel", "answers", "(IJI)I"⟩, prog_14_method_24_code, 5, some (.int), 2, 3, false, 12),
  (⟨"RunSayerModel", "ban", "(IIII)I"⟩, prog_14_method_28_code, 7, some (.int), 2, 4, false, 12),
  (⟨"RunSayerModel", "door", "(III)I"⟩, prog_14_method_17_code, 4, some (.int), 2, 3, false, 12),
  (⟨"RunSayerModel", "eats4", "(IIII)V"⟩, prog_14_method_94_code, 5, none, 2, 4, false, 12),
  (⟨"RunSayerModel", "holds", "(IIII)I"⟩, prog_14_method_83_code, 5, some (.int), 2, 4, false, 12),
  (⟨"RunSayerModel", "isAhead", "(III)Z"⟩, prog_14_method_35_code, 7, some (.boolean), 2, 3, false, 12),
  (⟨"RunSayerModel", "isDrivable", "(IIII)Z"⟩, prog_14_method_38_code, 6, some (.boolean), 2, 4, false, 12),
  (⟨"RunSayerModel", "junctions", "(IIII)I"⟩, prog_14_method_108_code, 8, some (.int), 2, 4, false, 12),
  (⟨"RunSayerModel", "keepsSaid", "(III)V"⟩, prog_14_method_73_code, 9, none, 2, 3, false, 12),
  (⟨"RunSayerModel", "knows", "(II)I"⟩, prog_14_method_84_code, 3, some (.int), 2, 2, false, 12),
  (⟨"RunSayerModel", "leftRight", "()I"⟩, prog_14_method_67_code, 1, some (.int), 2, 0, false, 12),
  (⟨"RunSayerModel", "lets", "(IJJ)Z"⟩, prog_14_method_49_code, 8, some (.boolean), 2, 3, false, 12),
  (⟨"RunSayerModel", "name", "(IJ)I"⟩, prog_14_method_22_code, 4, some (.int), 2, 2, false, 12),
  (⟨"RunSayerModel", "plan", "(IIII)I"⟩, prog_14_method_87_code, 12, some (.int), 2, 4, false, 12),
  (⟨"RunSayerModel", "ride", "(II)I"⟩, prog_14_method_82_code, 3, some (.int), 2, 2, false, 12),
  (⟨"RunSayerModel", "shut", "(III)I"⟩, prog_14_method_25_code, 4, some (.int), 2, 3, false, 12),
  (⟨"RunSayerModel", "wasShut", "(III)I"⟩, prog_14_method_27_code, 4, some (.int), 2, 3, false, 12),
  (⟨"RunSayer$Pupil", "isHeld", "(II)Z"⟩, prog_7_method_3_code, 3, some (.boolean), 2, 2, false, 5),
  (⟨"RunSayer$Rule", "appliesTo", "(LRunSayer$Exam;)Z"⟩, prog_9_method_5_code, 3, some (.boolean), 2, 1, false, 7),
  (⟨"RunSayer", "about", "(III)I"⟩, prog_1_method_6_code, 4, some (.int), 2, 3, false, 11),
  (⟨"RunSayer", "answers", "(IJI)I"⟩, prog_1_method_9_code, 5, some (.int), 2, 3, false, 11),
  (⟨"RunSayer", "ban", "(IIII)I"⟩, prog_1_method_12_code, 7, some (.int), 2, 4, false, 11)]
def mY_5 : List am_Y := [(⟨"RunSayer", "cell", "(III)I"⟩, prog_1_method_41_code, 4, some (.int), 2, 3, false, 11),
  (⟨"RunSayer", "copy", "(IIIII)I"⟩, prog_1_method_43_code, 8, some (.int), 2, 5, false, 11),
  (⟨"RunSayer", "cost", "(I)J"⟩, prog_1_method_19_code, 2, some (.long), 2, 1, false, 11),
  (⟨"RunSayer", "door", "(III)I"⟩, prog_1_method_5_code, 4, some (.int), 2, 3, false, 11),
  (⟨"RunSayer", "drivable", "(IIII)I"⟩, prog_1_method_15_code, 5, some (.int), 2, 4, false, 11),
  (⟨"RunSayer", "junction", "(III)I"⟩, prog_1_method_2_code, 4, some (.int), 2, 3, false, 11),
  (⟨"RunSayer", "name", "(IJ)I"⟩, prog_1_method_8_code, 4, some (.int), 2, 2, false, 11),
  (⟨"RunSayer", "read", "(II)I"⟩, prog_1_method_42_code, 3, some (.int), 2, 2, false, 11),
  (⟨"RunSayer", "ring", "(II)I"⟩, prog_1_method_3_code, 4, some (.int), 2, 2, false, 11),
  (⟨"RunSayer", "sheet", "(III)I"⟩, prog_1_method_40_code, 4, some (.int), 2, 3, false, 11),
  (⟨"RunSayer", "shut", "(III)I"⟩, prog_1_method_10_code, 4, some (.int), 2, 3, false, 11),
  (⟨"RunSayer", "taken", "(II)I"⟩, prog_1_method_7_code, 3, some (.int), 2, 2, false, 11),
  (⟨"RunSayer", "wasShut", "(III)I"⟩, prog_1_method_11_code, 4, some (.int), 2, 3, false, 11),
  (⟨"RunSayer", "way", "(IIIII)I"⟩, prog_1_method_4_code, 6, some (.int), 2, 5, false, 11),
  (⟨"RunSayer$Speech", "readSetDown", "(LRunSayer$Tape;)I"⟩, prog_11_method_5_code, 5, some (.int), 2, 1, false, 9),
  (⟨"RunSayer$Speech", "readTurn", "(LRunSayer$Tape;JI)I"⟩, prog_11_method_3_code, 9, some (.int), 2, 3, false, 9),
  (⟨"RunSayer$City", "howTurned", "(II)I"⟩, prog_2_method_18_code, 4, some (.int), 3, 2, false, 0),
  (⟨"RunSayer$Finder", "findBest", "(LRunSayer$Route;IIZ)I"⟩, prog_4_method_9_code, 10, some (.int), 3, 4, false, 2),
  (⟨"RunSayer$Finder", "setCity", "(III)V"⟩, prog_4_method_2_code, 5, none, 3, 3, false, 2),
  (⟨"RunSayer$Finder", "setHeld", "(LRunSayer$Links;LRunSayer$Pupil;)V"⟩, prog_4_method_4_code, 4, none, 3, 2, false, 2),
  (⟨"RunSayer$Finder", "writeProof", "([III)V"⟩, prog_4_method_22_code, 5, none, 3, 3, false, 2),
  (⟨"RunSayer$Links", "heldCount", "(LRunSayer$Pupil;I)I"⟩, prog_6_method_7_code, 5, some (.int), 3, 2, false, 4),
  (⟨"RunSayer$Links", "planRides", "(LRunSayer$Pupil;[IIII)I"⟩, prog_6_method_9_code, 11, some (.int), 3, 5, false, 4),
  (⟨"RunSayerModel", "drivable", "(IIII)I"⟩, prog_14_method_39_code, 5, some (.int), 3, 4, false, 12),
  (⟨"RunSayerModel", "isWrong", "(IIII)Z"⟩, prog_14_method_98_code, 7, some (.boolean), 3, 4, false, 12),
  (⟨"RunSayerModel", "mayGo", "(I)Z"⟩, prog_14_method_40_code, 2, some (.boolean), 3, 1, false, 12),
  (⟨"RunSayerModel", "testRead", "()I"⟩, prog_14_method_96_code, 3, some (.int), 3, 0, false, 12),
  (⟨"RunSayerModel", "turnRead", "()Z"⟩, prog_14_method_68_code, 3, some (.boolean), 3, 0, false, 12),
  (⟨"RunSayerModel", "turned", "(II)I"⟩, prog_14_method_36_code, 5, some (.int), 3, 2, false, 12),
  (⟨"RunSayer", "holds", "(IIII)I"⟩, prog_1_method_29_code, 6, some (.int), 3, 4, false, 11),
  (⟨"RunSayer", "junctions", "(IIII)I"⟩, prog_1_method_44_code, 9, some (.int), 3, 4, false, 11),
  (⟨"RunSayer$Speech", "readFrom", "(LRunSayer$Tape;)I"⟩, prog_11_method_2_code, 7, some (.int), 3, 1, false, 9),
  (⟨"RunSayer$Finder", "legCalled", "(IJI)I"⟩, prog_4_method_27_code, 9, some (.int), 4, 3, false, 2),
  (⟨"java/lang/String", "charAt", "(I)C"⟩, prog_17_method_56_code, 2, some (.char), 4, 1, false, 13),
  (⟨"RunSayerModel", "mayTurn", "(II)Z"⟩, prog_14_method_42_code, 3, some (.boolean), 4, 2, false, 12),
  (⟨"RunSayerModel", "rule", "()I"⟩, prog_14_method_97_code, 4, some (.int), 4, 0, false, 12),
  (⟨"RunSayerModel", "saidRead", "()I"⟩, prog_14_method_69_code, 1, some (.int), 4, 0, false, 12),
  (⟨"RunSayerModel", "turn", "(II)I"⟩, prog_14_method_37_code, 3, some (.int), 4, 2, false, 12),
  (⟨"RunSayerModel", "whyNot", "(III)I"⟩, prog_14_method_70_code, 7, some (.int), 4, 3, false, 12),
  (⟨"RunSayer", "best", "(IIII)I"⟩, prog_1_method_16_code, 5, some (.int), 4, 4, false, 11)]
def mY_6 : List am_Y := [(⟨"RunSayer", "bestOn", "(IIIII)I"⟩, prog_1_method_17_code, 8, some (.int), 4, 5, false, 11),
  (⟨"RunSayer", "bound", "(IIII)I"⟩, prog_1_method_21_code, 9, some (.int), 4, 4, false, 11),
  (⟨"RunSayer", "knows", "(II)I"⟩, prog_1_method_30_code, 3, some (.int), 4, 2, false, 11),
  (⟨"RunSayer", "markExam", "(LRunSayer$Exam;)V"⟩, prog_1_method_56_code, 5, none, 4, 1, false, 11),
  (⟨"RunSayer", "plan", "(IIII)I"⟩, prog_1_method_32_code, 5, some (.int), 4, 4, false, 11),
  (⟨"RunSayer", "prove", "(III)I"⟩, prog_1_method_20_code, 5, some (.int), 4, 3, false, 11),
  (⟨"RunSayer", "ride", "(II)I"⟩, prog_1_method_28_code, 3, some (.int), 4, 2, false, 11),
  (⟨"RunSayer", "sayByHeart", "(LRunSayer$Route;III)I"⟩, prog_1_method_54_code, 5, some (.int), 4, 4, false, 11),
  (⟨"RunSayer", "turn", "(II)I"⟩, prog_1_method_14_code, 3, some (.int), 4, 2, false, 11),
  (⟨"RunSayer$Finder", "driveSpeech", "(LRunSayer$Speech;LRunSayer$Route;)I"⟩, prog_4_method_26_code, 7, some (.int), 5, 2, false, 2),
  (⟨"RunSayerModel", "isRight", "(III)Z"⟩, prog_14_method_59_code, 8, some (.boolean), 5, 3, false, 12),
  (⟨"RunSayerModel", "letsDown", "(I)V"⟩, prog_14_method_48_code, 6, none, 5, 1, false, 12),
  (⟨"RunSayerModel", "say", "(III)I"⟩, prog_14_method_72_code, 7, some (.int), 5, 3, false, 12),
  (⟨"RunSayer", "appeal", "(I)I"⟩, prog_1_method_38_code, 3, some (.int), 5, 1, false, 11),
  (⟨"RunSayer", "ask", "(IIII)I"⟩, prog_1_method_36_code, 6, some (.int), 5, 4, false, 11),
  (⟨"RunSayer", "mostAlike", "(III)I"⟩, prog_1_method_55_code, 8, some (.int), 5, 3, false, 11),
  (⟨"RunSayer", "wouldSay", "(IIII)I"⟩, prog_1_method_31_code, 5, some (.int), 5, 4, false, 11),
  (⟨"RunSayer$Tape", "takesText", "(Ljava/lang/String;)Z"⟩, prog_12_method_12_code, 3, some (.boolean), 5, 1, false, 10),
  (⟨"RunSayerModel", "bound", "(IIII)I"⟩, prog_14_method_60_code, 10, some (.int), 6, 4, false, 12),
  (⟨"RunSayerModel", "prove", "(III)I"⟩, prog_14_method_58_code, 5, some (.int), 6, 3, false, 12),
  (⟨"RunSayerModel", "search", "(II)V"⟩, prog_14_method_50_code, 12, none, 6, 2, false, 12),
  (⟨"RunSayer$Rule", "readComparison", "(LRunSayer$Tape;I)Z"⟩, prog_9_method_4_code, 3, some (.boolean), 6, 2, false, 7),
  (⟨"RunSayer", "parting", "(II)I"⟩, prog_1_method_34_code, 8, some (.int), 6, 2, false, 11),
  (⟨"RunSayer", "say", "(III)I"⟩, prog_1_method_24_code, 7, some (.int), 6, 3, false, 11),
  (⟨"RunSayerModel", "best", "(IIII)I"⟩, prog_14_method_54_code, 5, some (.int), 7, 4, false, 12),
  (⟨"RunSayerModel", "bestOn", "(IIIII)I"⟩, prog_14_method_55_code, 6, some (.int), 7, 5, false, 12),
  (⟨"RunSayerModel", "marks", "(I)V"⟩, prog_14_method_99_code, 16, none, 7, 1, false, 12),
  (⟨"RunSayerModel", "mostAlike", "(IIII)I"⟩, prog_14_method_90_code, 9, some (.int), 7, 4, false, 12),
  (⟨"RunSayerModel", "wouldSay", "(IIII)I"⟩, prog_14_method_85_code, 5, some (.int), 7, 4, false, 12),
  (⟨"RunSayer$Rule", "readTest", "(LRunSayer$Tape;I)Z"⟩, prog_9_method_3_code, 5, some (.boolean), 7, 2, false, 7),
  (⟨"RunSayerModel", "appeal", "(I)I"⟩, prog_14_method_102_code, 3, some (.int), 8, 1, false, 12),
  (⟨"RunSayerModel", "ask", "(IIII)I"⟩, prog_14_method_100_code, 7, some (.int), 8, 4, false, 12),
  (⟨"RunSayerModel", "parting", "(II)I"⟩, prog_14_method_91_code, 8, some (.int), 8, 2, false, 12),
  (⟨"RunSayer$Rule", "readFrom", "(LRunSayer$Tape;)I"⟩, prog_9_method_2_code, 3, some (.int), 8, 1, false, 7),
  (⟨"RunSayer", "rule", "()I"⟩, prog_1_method_35_code, 2, some (.int), 9, 0, false, 11),
  (⟨"RunSayerLaw", "law", "([I)Z"⟩, code, 4, some (.boolean), 10, 1, true, 18)]
def mY (y : Nat) : am_Y := (([mY_0, mY_1, mY_2, mY_3, mY_4, mY_5, mY_6] : List (List am_Y)).getD (y / 40) []).getD (y % 40) mY0
abbrev mN (y : Nat) : MethodName := (mY y).1
abbrev mB (y : Nat) : ByteArray := (mY y).2.1
abbrev mL (y : Nat) : Nat := (mY y).2.2.1
abbrev mR (y : Nat) : Option FieldType := (mY y).2.2.2.1
abbrev mK (y : Nat) : Nat := (mY y).2.2.2.2.1
abbrev mP (y : Nat) : Nat := (mY y).2.2.2.2.2.1
abbrev mS (y : Nat) : Bool := (mY y).2.2.2.2.2.2.1
abbrev mW (y : Nat) : Nat := (mY y).2.2.2.2.2.2.2
/-- a method that may be called: what the tables say of it -/
def pr_m (y : Nat) : Prop := (mN y).cls = mO (mW y) ∧ Cond.code (mN y) (mB y) (mL y) (mR y) ∈ lw_g ∧ (mS y = true → Cond.static (mN y) ∈ lw_g) ∧ (mS y = false → Cond.instanceMethod (mN y) ∈ lw_g ∧ Cond.selects (mN y).cls (mN y) (mN y) ∈ lw_g)
theorem m_st {y : Nat} (h0 : (mN y).cls = mO (mW y)) (h1 : Cond.code (mN y) (mB y) (mL y) (mR y) ∈ lw_g) (hs : mS y = true) (h2 : Cond.static (mN y) ∈ lw_g) : pr_m y := ⟨h0, h1, fun _ => h2, fun h => by rw [hs] at h; cases h⟩
theorem m_in {y : Nat} (h0 : (mN y).cls = mO (mW y)) (h1 : Cond.code (mN y) (mB y) (mL y) (mR y) ∈ lw_g) (hs : mS y = false) (h2 : Cond.instanceMethod (mN y) ∈ lw_g) (h3 : Cond.selects (mN y).cls (mN y) (mN y) ∈ lw_g) : pr_m y := ⟨h0, h1, fun h => (by rw [hs] at h; cases h), fun _ => ⟨h2, h3⟩⟩
theorem in_p {i : Nat} {w : Cond} (h : (k2_sels lw_privs)[i]? = some w) (hg : goodWord w = true) : w ∈ lw_g := List.mem_filter.mpr ⟨List.mem_append_left _ (List.mem_of_getElem? h), hg⟩
def tm_0 : List (Nat) := [0, 1, 2, 3, 4, 5, 6, 7, 8, 9, 10, 11, 12, 13, 14, 15]
theorem p_tm_0 : ∀ q ∈ tm_0, pr_m q := List.forall_mem_cons.mpr ⟨m_in rfl (in_3 (List.mem_of_getElem? (i := 72) rfl) rfl) rfl (in_3 (List.mem_of_getElem? (i := 71) rfl) rfl) (in_p (i := 1) rfl rfl), List.forall_mem_cons.mpr ⟨m_in rfl (in_3 (List.mem_of_getElem? (i := 56) rfl) rfl) rfl (in_3 (List.mem_of_getElem? (i := 55) rfl) rfl) (in_p (i := 0) rfl rfl), List.forall_mem_cons.mpr ⟨m_in rfl (in_3 (List.mem_of_getElem? (i := 211) rfl) rfl) rfl (in_3 (List.mem_of_getElem? (i := 210) rfl) rfl) (in_p (i := 7) rfl rfl), List.forall_mem_cons.mpr ⟨m_in rfl (in_3 (List.mem_of_getElem? (i := 215) rfl) rfl) rfl (in_3 (List.mem_of_getElem? (i := 214) rfl) rfl) (in_p (i := 8) rfl rfl), List.forall_mem_cons.mpr ⟨m_in rfl (in_3 (List.mem_of_getElem? (i := 103) rfl) rfl) rfl (in_3 (List.mem_of_getElem? (i := 101) rfl) rfl) (in_3 (List.mem_of_getElem? (i := 102) rfl) rfl), List.forall_mem_cons.mpr ⟨m_in rfl (in_4 (List.mem_of_getElem? (i := 86) rfl) rfl) rfl (in_4 (List.mem_of_getElem? (i := 84) rfl) rfl) (in_4 (List.mem_of_getElem? (i := 85) rfl) rfl), List.forall_mem_cons.mpr ⟨m_in rfl (in_4 (List.mem_of_getElem? (i := 52) rfl) rfl) rfl (in_4 (List.mem_of_getElem? (i := 50) rfl) rfl) (in_4 (List.mem_of_getElem? (i := 51) rfl) rfl), List.forall_mem_cons.mpr ⟨m_in rfl (in_4 (List.mem_of_getElem? (i := 78) rfl) rfl) rfl (in_4 (List.mem_of_getElem? (i := 76) rfl) rfl) (in_4 (List.mem_of_getElem? (i := 77) rfl) rfl), List.forall_mem_cons.mpr ⟨m_st rfl (in_3 (List.mem_of_getElem? (i := 122) rfl) rfl) rfl (in_3 (List.mem_of_getElem? (i := 121) rfl) rfl), List.forall_mem_cons.mpr ⟨m_in rfl (in_3 (List.mem_of_getElem? (i := 111) rfl) rfl) rfl (in_3 (List.mem_of_getElem? (i := 109) rfl) rfl) (in_3 (List.mem_of_getElem? (i := 110) rfl) rfl), List.forall_mem_cons.mpr ⟨m_in rfl (in_3 (List.mem_of_getElem? (i := 179) rfl) rfl) rfl (in_3 (List.mem_of_getElem? (i := 177) rfl) rfl) (in_3 (List.mem_of_getElem? (i := 178) rfl) rfl), List.forall_mem_cons.mpr ⟨m_in rfl (in_3 (List.mem_of_getElem? (i := 219) rfl) rfl) rfl (in_3 (List.mem_of_getElem? (i := 217) rfl) rfl) (in_3 (List.mem_of_getElem? (i := 218) rfl) rfl), List.forall_mem_cons.mpr ⟨m_in rfl (in_3 (List.mem_of_getElem? (i := 107) rfl) rfl) rfl (in_3 (List.mem_of_getElem? (i := 105) rfl) rfl) (in_3 (List.mem_of_getElem? (i := 106) rfl) rfl), List.forall_mem_cons.mpr ⟨m_in rfl (in_3 (List.mem_of_getElem? (i := 99) rfl) rfl) rfl (in_3 (List.mem_of_getElem? (i := 97) rfl) rfl) (in_3 (List.mem_of_getElem? (i := 98) rfl) rfl), List.forall_mem_cons.mpr ⟨m_in rfl (in_5 (List.mem_of_getElem? (i := 237) rfl) rfl) rfl (in_5 (List.mem_of_getElem? (i := 235) rfl) rfl) (in_5 (List.mem_of_getElem? (i := 236) rfl) rfl), List.forall_mem_cons.mpr ⟨m_st rfl (in_5 (List.mem_of_getElem? (i := 206) rfl) rfl) rfl (in_5 (List.mem_of_getElem? (i := 205) rfl) rfl), fun _ h => absurd h List.not_mem_nil⟩⟩⟩⟩⟩⟩⟩⟩⟩⟩⟩⟩⟩⟩⟩⟩
def tm_1 : List (Nat) := [16, 17, 18, 19, 20, 21, 22, 23, 24, 25, 26, 27, 28, 29, 30, 31]
theorem p_tm_1 : ∀ q ∈ tm_1, pr_m q := List.forall_mem_cons.mpr ⟨m_in rfl (in_4 (List.mem_of_getElem? (i := 70) rfl) rfl) rfl (in_4 (List.mem_of_getElem? (i := 69) rfl) rfl) (in_p (i := 19) rfl rfl), List.forall_mem_cons.mpr ⟨m_in rfl (in_4 (List.mem_of_getElem? (i := 48) rfl) rfl) rfl (in_4 (List.mem_of_getElem? (i := 47) rfl) rfl) (in_p (i := 15) rfl rfl), List.forall_mem_cons.mpr ⟨m_in rfl (in_4 (List.mem_of_getElem? (i := 19) rfl) rfl) rfl (in_4 (List.mem_of_getElem? (i := 18) rfl) rfl) (in_p (i := 11) rfl rfl), List.forall_mem_cons.mpr ⟨m_in rfl (in_4 (List.mem_of_getElem? (i := 62) rfl) rfl) rfl (in_4 (List.mem_of_getElem? (i := 61) rfl) rfl) (in_p (i := 17) rfl rfl), List.forall_mem_cons.mpr ⟨m_in rfl (in_4 (List.mem_of_getElem? (i := 66) rfl) rfl) rfl (in_4 (List.mem_of_getElem? (i := 65) rfl) rfl) (in_p (i := 18) rfl rfl), List.forall_mem_cons.mpr ⟨m_in rfl (in_4 (List.mem_of_getElem? (i := 11) rfl) rfl) rfl (in_4 (List.mem_of_getElem? (i := 10) rfl) rfl) (in_p (i := 10) rfl rfl), List.forall_mem_cons.mpr ⟨m_st rfl (in_5 (List.mem_of_getElem? (i := 93) rfl) rfl) rfl (in_5 (List.mem_of_getElem? (i := 92) rfl) rfl), List.forall_mem_cons.mpr ⟨m_st rfl (in_4 (List.mem_of_getElem? (i := 39) rfl) rfl) rfl (in_4 (List.mem_of_getElem? (i := 38) rfl) rfl), List.forall_mem_cons.mpr ⟨m_st rfl (in_5 (List.mem_of_getElem? (i := 132) rfl) rfl) rfl (in_5 (List.mem_of_getElem? (i := 131) rfl) rfl), List.forall_mem_cons.mpr ⟨m_st rfl (in_5 (List.mem_of_getElem? (i := 50) rfl) rfl) rfl (in_5 (List.mem_of_getElem? (i := 49) rfl) rfl), List.forall_mem_cons.mpr ⟨m_st rfl (in_4 (List.mem_of_getElem? (i := 89) rfl) rfl) rfl (in_4 (List.mem_of_getElem? (i := 88) rfl) rfl), List.forall_mem_cons.mpr ⟨m_st rfl (in_5 (List.mem_of_getElem? (i := 174) rfl) rfl) rfl (in_5 (List.mem_of_getElem? (i := 173) rfl) rfl), List.forall_mem_cons.mpr ⟨m_in rfl (in_5 (List.mem_of_getElem? (i := 153) rfl) rfl) rfl (in_5 (List.mem_of_getElem? (i := 151) rfl) rfl) (in_5 (List.mem_of_getElem? (i := 152) rfl) rfl), List.forall_mem_cons.mpr ⟨m_in rfl (in_5 (List.mem_of_getElem? (i := 163) rfl) rfl) rfl (in_5 (List.mem_of_getElem? (i := 161) rfl) rfl) (in_5 (List.mem_of_getElem? (i := 162) rfl) rfl), List.forall_mem_cons.mpr ⟨m_in rfl (in_3 (List.mem_of_getElem? (i := 187) rfl) rfl) rfl (in_3 (List.mem_of_getElem? (i := 185) rfl) rfl) (in_3 (List.mem_of_getElem? (i := 186) rfl) rfl), List.forall_mem_cons.mpr ⟨m_in rfl (in_3 (List.mem_of_getElem? (i := 139) rfl) rfl) rfl (in_3 (List.mem_of_getElem? (i := 137) rfl) rfl) (in_3 (List.mem_of_getElem? (i := 138) rfl) rfl), fun _ h => absurd h List.not_mem_nil⟩⟩⟩⟩⟩⟩⟩⟩⟩⟩⟩⟩⟩⟩⟩⟩
def tm_2 : List (Nat) := [32, 33, 34, 35, 36, 37, 38, 39, 40, 41, 42, 43, 44, 45, 46, 47]
theorem p_tm_2 : ∀ q ∈ tm_2, pr_m q := List.forall_mem_cons.mpr ⟨m_in rfl (in_3 (List.mem_of_getElem? (i := 159) rfl) rfl) rfl (in_3 (List.mem_of_getElem? (i := 157) rfl) rfl) (in_3 (List.mem_of_getElem? (i := 158) rfl) rfl), List.forall_mem_cons.mpr ⟨m_in rfl (in_3 (List.mem_of_getElem? (i := 151) rfl) rfl) rfl (in_3 (List.mem_of_getElem? (i := 149) rfl) rfl) (in_3 (List.mem_of_getElem? (i := 150) rfl) rfl), List.forall_mem_cons.mpr ⟨m_in rfl (in_4 (List.mem_of_getElem? (i := 15) rfl) rfl) rfl (in_4 (List.mem_of_getElem? (i := 13) rfl) rfl) (in_4 (List.mem_of_getElem? (i := 14) rfl) rfl), List.forall_mem_cons.mpr ⟨m_in rfl (in_3 (List.mem_of_getElem? (i := 167) rfl) rfl) rfl (in_3 (List.mem_of_getElem? (i := 165) rfl) rfl) (in_3 (List.mem_of_getElem? (i := 166) rfl) rfl), List.forall_mem_cons.mpr ⟨m_in rfl (in_5 (List.mem_of_getElem? (i := 108) rfl) rfl) rfl (in_5 (List.mem_of_getElem? (i := 107) rfl) rfl) (in_p (i := 35) rfl rfl), List.forall_mem_cons.mpr ⟨m_in rfl (in_5 (List.mem_of_getElem? (i := 100) rfl) rfl) rfl (in_5 (List.mem_of_getElem? (i := 98) rfl) rfl) (in_5 (List.mem_of_getElem? (i := 99) rfl) rfl), List.forall_mem_cons.mpr ⟨m_in rfl (in_5 (List.mem_of_getElem? (i := 19) rfl) rfl) rfl (in_5 (List.mem_of_getElem? (i := 18) rfl) rfl) (in_p (i := 32) rfl rfl), List.forall_mem_cons.mpr ⟨m_in rfl (in_5 (List.mem_of_getElem? (i := 15) rfl) rfl) rfl (in_5 (List.mem_of_getElem? (i := 13) rfl) rfl) (in_5 (List.mem_of_getElem? (i := 14) rfl) rfl), List.forall_mem_cons.mpr ⟨m_in rfl (in_7 (List.mem_of_getElem? (i := 168) rfl) rfl) rfl (in_7 (List.mem_of_getElem? (i := 167) rfl) rfl) (in_p (i := 45) rfl rfl), List.forall_mem_cons.mpr ⟨m_in rfl (in_8 (List.mem_of_getElem? (i := 220) rfl) rfl) rfl (in_8 (List.mem_of_getElem? (i := 219) rfl) rfl) (in_p (i := 89) rfl rfl), List.forall_mem_cons.mpr ⟨m_in rfl (in_8 (List.mem_of_getElem? (i := 196) rfl) rfl) rfl (in_8 (List.mem_of_getElem? (i := 195) rfl) rfl) (in_p (i := 86) rfl rfl), List.forall_mem_cons.mpr ⟨m_in rfl (in_8 (List.mem_of_getElem? (i := 10) rfl) rfl) rfl (in_8 (List.mem_of_getElem? (i := 9) rfl) rfl) (in_p (i := 57) rfl rfl), List.forall_mem_cons.mpr ⟨m_in rfl (in_7 (List.mem_of_getElem? (i := 196) rfl) rfl) rfl (in_7 (List.mem_of_getElem? (i := 195) rfl) rfl) (in_p (i := 49) rfl rfl), List.forall_mem_cons.mpr ⟨m_in rfl (in_8 (List.mem_of_getElem? (i := 56) rfl) rfl) rfl (in_8 (List.mem_of_getElem? (i := 55) rfl) rfl) (in_p (i := 68) rfl rfl), List.forall_mem_cons.mpr ⟨m_in rfl (in_7 (List.mem_of_getElem? (i := 114) rfl) rfl) rfl (in_7 (List.mem_of_getElem? (i := 113) rfl) rfl) (in_p (i := 41) rfl rfl), List.forall_mem_cons.mpr ⟨m_in rfl (in_8 (List.mem_of_getElem? (i := 76) rfl) rfl) rfl (in_8 (List.mem_of_getElem? (i := 74) rfl) rfl) (in_8 (List.mem_of_getElem? (i := 75) rfl) rfl), fun _ h => absurd h List.not_mem_nil⟩⟩⟩⟩⟩⟩⟩⟩⟩⟩⟩⟩⟩⟩⟩⟩
def tm_3 : List (Nat) := [48, 49, 50, 51, 52, 53, 54, 55, 56, 57, 58, 59, 60, 61, 62, 63]
theorem p_tm_3 : ∀ q ∈ tm_3, pr_m q := List.forall_mem_cons.mpr ⟨m_in rfl (in_9 (List.mem_of_getElem? (i := 30) rfl) rfl) rfl (in_9 (List.mem_of_getElem? (i := 28) rfl) rfl) (in_9 (List.mem_of_getElem? (i := 29) rfl) rfl), List.forall_mem_cons.mpr ⟨m_st rfl (in_7 (List.mem_of_getElem? (i := 223) rfl) rfl) rfl (in_7 (List.mem_of_getElem? (i := 222) rfl) rfl), List.forall_mem_cons.mpr ⟨m_in rfl (in_7 (List.mem_of_getElem? (i := 200) rfl) rfl) rfl (in_7 (List.mem_of_getElem? (i := 199) rfl) rfl) (in_p (i := 50) rfl rfl), List.forall_mem_cons.mpr ⟨m_in rfl (in_8 (List.mem_of_getElem? (i := 60) rfl) rfl) rfl (in_8 (List.mem_of_getElem? (i := 59) rfl) rfl) (in_p (i := 69) rfl rfl), List.forall_mem_cons.mpr ⟨m_in rfl (in_8 (List.mem_of_getElem? (i := 236) rfl) rfl) rfl (in_8 (List.mem_of_getElem? (i := 235) rfl) rfl) (in_p (i := 92) rfl rfl), List.forall_mem_cons.mpr ⟨m_st rfl (in_7 (List.mem_of_getElem? (i := 110) rfl) rfl) rfl (in_7 (List.mem_of_getElem? (i := 109) rfl) rfl), List.forall_mem_cons.mpr ⟨m_in rfl (in_8 (List.mem_of_getElem? (i := 31) rfl) rfl) rfl (in_8 (List.mem_of_getElem? (i := 30) rfl) rfl) (in_p (i := 62) rfl rfl), List.forall_mem_cons.mpr ⟨m_in rfl (in_8 (List.mem_of_getElem? (i := 35) rfl) rfl) rfl (in_8 (List.mem_of_getElem? (i := 34) rfl) rfl) (in_p (i := 63) rfl rfl), List.forall_mem_cons.mpr ⟨m_in rfl (in_8 (List.mem_of_getElem? (i := 51) rfl) rfl) rfl (in_8 (List.mem_of_getElem? (i := 50) rfl) rfl) (in_p (i := 67) rfl rfl), List.forall_mem_cons.mpr ⟨m_in rfl (in_7 (List.mem_of_getElem? (i := 180) rfl) rfl) rfl (in_7 (List.mem_of_getElem? (i := 179) rfl) rfl) (in_p (i := 46) rfl rfl), List.forall_mem_cons.mpr ⟨m_st rfl (in_7 (List.mem_of_getElem? (i := 152) rfl) rfl) rfl (in_7 (List.mem_of_getElem? (i := 151) rfl) rfl), List.forall_mem_cons.mpr ⟨m_in rfl (in_8 (List.mem_of_getElem? (i := 204) rfl) rfl) rfl (in_8 (List.mem_of_getElem? (i := 203) rfl) rfl) (in_p (i := 87) rfl rfl), List.forall_mem_cons.mpr ⟨m_in rfl (in_8 (List.mem_of_getElem? (i := 176) rfl) rfl) rfl (in_8 (List.mem_of_getElem? (i := 175) rfl) rfl) (in_p (i := 84) rfl rfl), List.forall_mem_cons.mpr ⟨m_in rfl (in_8 (List.mem_of_getElem? (i := 115) rfl) rfl) rfl (in_8 (List.mem_of_getElem? (i := 114) rfl) rfl) (in_p (i := 74) rfl rfl), List.forall_mem_cons.mpr ⟨m_in rfl (in_8 (List.mem_of_getElem? (i := 64) rfl) rfl) rfl (in_8 (List.mem_of_getElem? (i := 63) rfl) rfl) (in_p (i := 70) rfl rfl), List.forall_mem_cons.mpr ⟨m_in rfl (in_8 (List.mem_of_getElem? (i := 39) rfl) rfl) rfl (in_8 (List.mem_of_getElem? (i := 38) rfl) rfl) (in_p (i := 64) rfl rfl), fun _ h => absurd h List.not_mem_nil⟩⟩⟩⟩⟩⟩⟩⟩⟩⟩⟩⟩⟩⟩⟩⟩
def tm_4 : List (Nat) := [64, 65, 66, 67, 68, 69, 70, 71, 72, 73, 74, 75, 76, 77, 78, 79]
theorem p_tm_4 : ∀ q ∈ tm_4, pr_m q := List.forall_mem_cons.mpr ⟨m_in rfl (in_8 (List.mem_of_getElem? (i := 99) rfl) rfl) rfl (in_8 (List.mem_of_getElem? (i := 97) rfl) rfl) (in_8 (List.mem_of_getElem? (i := 98) rfl) rfl), List.forall_mem_cons.mpr ⟨m_st rfl (in_8 (List.mem_of_getElem? (i := 122) rfl) rfl) rfl (in_8 (List.mem_of_getElem? (i := 121) rfl) rfl), List.forall_mem_cons.mpr ⟨m_in rfl (in_4 (List.mem_of_getElem? (i := 97) rfl) rfl) rfl (in_4 (List.mem_of_getElem? (i := 95) rfl) rfl) (in_4 (List.mem_of_getElem? (i := 96) rfl) rfl), List.forall_mem_cons.mpr ⟨m_in rfl (in_4 (List.mem_of_getElem? (i := 27) rfl) rfl) rfl (in_4 (List.mem_of_getElem? (i := 25) rfl) rfl) (in_4 (List.mem_of_getElem? (i := 26) rfl) rfl), List.forall_mem_cons.mpr ⟨m_in rfl (in_5 (List.mem_of_getElem? (i := 129) rfl) rfl) rfl (in_5 (List.mem_of_getElem? (i := 127) rfl) rfl) (in_5 (List.mem_of_getElem? (i := 128) rfl) rfl), List.forall_mem_cons.mpr ⟨m_in rfl (in_4 (List.mem_of_getElem? (i := 224) rfl) rfl) rfl (in_4 (List.mem_of_getElem? (i := 222) rfl) rfl) (in_4 (List.mem_of_getElem? (i := 223) rfl) rfl), List.forall_mem_cons.mpr ⟨m_st rfl (in_6 (List.mem_of_getElem? (i := 10) rfl) rfl) rfl (in_6 (List.mem_of_getElem? (i := 9) rfl) rfl), List.forall_mem_cons.mpr ⟨m_in rfl (in_6 (List.mem_of_getElem? (i := 22) rfl) rfl) rfl (in_6 (List.mem_of_getElem? (i := 20) rfl) rfl) (in_6 (List.mem_of_getElem? (i := 21) rfl) rfl), List.forall_mem_cons.mpr ⟨m_st rfl (in_3 (List.mem_of_getElem? (i := 45) rfl) rfl) rfl (in_3 (List.mem_of_getElem? (i := 44) rfl) rfl), List.forall_mem_cons.mpr ⟨m_in rfl (in_4 (List.mem_of_getElem? (i := 126) rfl) rfl) rfl (in_4 (List.mem_of_getElem? (i := 124) rfl) rfl) (in_4 (List.mem_of_getElem? (i := 125) rfl) rfl), List.forall_mem_cons.mpr ⟨m_in rfl (in_6 (List.mem_of_getElem? (i := 46) rfl) rfl) rfl (in_6 (List.mem_of_getElem? (i := 44) rfl) rfl) (in_6 (List.mem_of_getElem? (i := 45) rfl) rfl), List.forall_mem_cons.mpr ⟨m_in rfl (in_6 (List.mem_of_getElem? (i := 34) rfl) rfl) rfl (in_6 (List.mem_of_getElem? (i := 32) rfl) rfl) (in_6 (List.mem_of_getElem? (i := 33) rfl) rfl), List.forall_mem_cons.mpr ⟨m_st rfl (in_4 (List.mem_of_getElem? (i := 210) rfl) rfl) rfl (in_4 (List.mem_of_getElem? (i := 209) rfl) rfl), List.forall_mem_cons.mpr ⟨m_in rfl (in_4 (List.mem_of_getElem? (i := 160) rfl) rfl) rfl (in_4 (List.mem_of_getElem? (i := 158) rfl) rfl) (in_4 (List.mem_of_getElem? (i := 159) rfl) rfl), List.forall_mem_cons.mpr ⟨m_in rfl (in_4 (List.mem_of_getElem? (i := 168) rfl) rfl) rfl (in_4 (List.mem_of_getElem? (i := 166) rfl) rfl) (in_4 (List.mem_of_getElem? (i := 167) rfl) rfl), List.forall_mem_cons.mpr ⟨m_in rfl (in_4 (List.mem_of_getElem? (i := 203) rfl) rfl) rfl (in_4 (List.mem_of_getElem? (i := 201) rfl) rfl) (in_4 (List.mem_of_getElem? (i := 202) rfl) rfl), fun _ h => absurd h List.not_mem_nil⟩⟩⟩⟩⟩⟩⟩⟩⟩⟩⟩⟩⟩⟩⟩⟩
def tm_5 : List (Nat) := [80, 81, 82, 83, 84, 85, 86, 87, 88, 89, 90, 91, 92, 93, 94, 95]
theorem p_tm_5 : ∀ q ∈ tm_5, pr_m q := List.forall_mem_cons.mpr ⟨m_st rfl (in_4 (List.mem_of_getElem? (i := 219) rfl) rfl) rfl (in_4 (List.mem_of_getElem? (i := 218) rfl) rfl), List.forall_mem_cons.mpr ⟨m_st rfl (in_3 (List.mem_of_getElem? (i := 135) rfl) rfl) rfl (in_3 (List.mem_of_getElem? (i := 134) rfl) rfl), List.forall_mem_cons.mpr ⟨m_in rfl (in_4 (List.mem_of_getElem? (i := 184) rfl) rfl) rfl (in_4 (List.mem_of_getElem? (i := 183) rfl) rfl) (in_p (i := 25) rfl rfl), List.forall_mem_cons.mpr ⟨m_in rfl (in_3 (List.mem_of_getElem? (i := 84) rfl) rfl) rfl (in_3 (List.mem_of_getElem? (i := 82) rfl) rfl) (in_3 (List.mem_of_getElem? (i := 83) rfl) rfl), List.forall_mem_cons.mpr ⟨m_in rfl (in_3 (List.mem_of_getElem? (i := 52) rfl) rfl) rfl (in_3 (List.mem_of_getElem? (i := 50) rfl) rfl) (in_3 (List.mem_of_getElem? (i := 51) rfl) rfl), List.forall_mem_cons.mpr ⟨m_in rfl (in_3 (List.mem_of_getElem? (i := 68) rfl) rfl) rfl (in_3 (List.mem_of_getElem? (i := 66) rfl) rfl) (in_3 (List.mem_of_getElem? (i := 67) rfl) rfl), List.forall_mem_cons.mpr ⟨m_in rfl (in_3 (List.mem_of_getElem? (i := 183) rfl) rfl) rfl (in_3 (List.mem_of_getElem? (i := 181) rfl) rfl) (in_3 (List.mem_of_getElem? (i := 182) rfl) rfl), List.forall_mem_cons.mpr ⟨m_in rfl (in_3 (List.mem_of_getElem? (i := 207) rfl) rfl) rfl (in_3 (List.mem_of_getElem? (i := 206) rfl) rfl) (in_p (i := 6) rfl rfl), List.forall_mem_cons.mpr ⟨m_in rfl (in_3 (List.mem_of_getElem? (i := 227) rfl) rfl) rfl (in_3 (List.mem_of_getElem? (i := 225) rfl) rfl) (in_3 (List.mem_of_getElem? (i := 226) rfl) rfl), List.forall_mem_cons.mpr ⟨m_in rfl (in_3 (List.mem_of_getElem? (i := 119) rfl) rfl) rfl (in_3 (List.mem_of_getElem? (i := 117) rfl) rfl) (in_3 (List.mem_of_getElem? (i := 118) rfl) rfl), List.forall_mem_cons.mpr ⟨m_in rfl (in_3 (List.mem_of_getElem? (i := 95) rfl) rfl) rfl (in_3 (List.mem_of_getElem? (i := 93) rfl) rfl) (in_3 (List.mem_of_getElem? (i := 94) rfl) rfl), List.forall_mem_cons.mpr ⟨m_in rfl (in_6 (List.mem_of_getElem? (i := 5) rfl) rfl) rfl (in_6 (List.mem_of_getElem? (i := 3) rfl) rfl) (in_6 (List.mem_of_getElem? (i := 4) rfl) rfl), List.forall_mem_cons.mpr ⟨m_in rfl (in_5 (List.mem_of_getElem? (i := 233) rfl) rfl) rfl (in_5 (List.mem_of_getElem? (i := 231) rfl) rfl) (in_5 (List.mem_of_getElem? (i := 232) rfl) rfl), List.forall_mem_cons.mpr ⟨m_in rfl (in_4 (List.mem_of_getElem? (i := 82) rfl) rfl) rfl (in_4 (List.mem_of_getElem? (i := 81) rfl) rfl) (in_p (i := 21) rfl rfl), List.forall_mem_cons.mpr ⟨m_in rfl (in_4 (List.mem_of_getElem? (i := 145) rfl) rfl) rfl (in_4 (List.mem_of_getElem? (i := 144) rfl) rfl) (in_p (i := 24) rfl rfl), List.forall_mem_cons.mpr ⟨m_in rfl (in_4 (List.mem_of_getElem? (i := 149) rfl) rfl) rfl (in_4 (List.mem_of_getElem? (i := 147) rfl) rfl) (in_4 (List.mem_of_getElem? (i := 148) rfl) rfl), fun _ h => absurd h List.not_mem_nil⟩⟩⟩⟩⟩⟩⟩⟩⟩⟩⟩⟩⟩⟩⟩⟩
def tm_6 : List (Nat) := [96, 97, 98, 99, 100, 101, 102, 103, 104, 105, 106, 107, 108, 109, 110, 111]
theorem p_tm_6 : ∀ q ∈ tm_6, pr_m q := List.forall_mem_cons.mpr ⟨m_in rfl (in_4 (List.mem_of_getElem? (i := 101) rfl) rfl) rfl (in_4 (List.mem_of_getElem? (i := 100) rfl) rfl) (in_p (i := 23) rfl rfl), List.forall_mem_cons.mpr ⟨m_in rfl (in_4 (List.mem_of_getElem? (i := 57) rfl) rfl) rfl (in_4 (List.mem_of_getElem? (i := 56) rfl) rfl) (in_p (i := 16) rfl rfl), List.forall_mem_cons.mpr ⟨m_in rfl (in_4 (List.mem_of_getElem? (i := 35) rfl) rfl) rfl (in_4 (List.mem_of_getElem? (i := 34) rfl) rfl) (in_p (i := 13) rfl rfl), List.forall_mem_cons.mpr ⟨m_in rfl (in_4 (List.mem_of_getElem? (i := 43) rfl) rfl) rfl (in_4 (List.mem_of_getElem? (i := 42) rfl) rfl) (in_p (i := 14) rfl rfl), List.forall_mem_cons.mpr ⟨m_in rfl (in_4 (List.mem_of_getElem? (i := 238) rfl) rfl) rfl (in_4 (List.mem_of_getElem? (i := 237) rfl) rfl) (in_p (i := 29) rfl rfl), List.forall_mem_cons.mpr ⟨m_in rfl (in_5 (List.mem_of_getElem? (i := 2) rfl) rfl) rfl (in_5 (List.mem_of_getElem? (i := 1) rfl) rfl) (in_p (i := 30) rfl rfl), List.forall_mem_cons.mpr ⟨m_st rfl (in_5 (List.mem_of_getElem? (i := 169) rfl) rfl) rfl (in_5 (List.mem_of_getElem? (i := 168) rfl) rfl), List.forall_mem_cons.mpr ⟨m_in rfl (in_5 (List.mem_of_getElem? (i := 149) rfl) rfl) rfl (in_5 (List.mem_of_getElem? (i := 147) rfl) rfl) (in_5 (List.mem_of_getElem? (i := 148) rfl) rfl), List.forall_mem_cons.mpr ⟨m_st rfl (in_3 (List.mem_of_getElem? (i := 131) rfl) rfl) rfl (in_3 (List.mem_of_getElem? (i := 130) rfl) rfl), List.forall_mem_cons.mpr ⟨m_in rfl (in_5 (List.mem_of_getElem? (i := 11) rfl) rfl) rfl (in_5 (List.mem_of_getElem? (i := 10) rfl) rfl) (in_p (i := 31) rfl rfl), List.forall_mem_cons.mpr ⟨m_in rfl (in_9 (List.mem_of_getElem? (i := 38) rfl) rfl) rfl (in_9 (List.mem_of_getElem? (i := 36) rfl) rfl) (in_9 (List.mem_of_getElem? (i := 37) rfl) rfl), List.forall_mem_cons.mpr ⟨m_in rfl (in_9 (List.mem_of_getElem? (i := 46) rfl) rfl) rfl (in_9 (List.mem_of_getElem? (i := 44) rfl) rfl) (in_9 (List.mem_of_getElem? (i := 45) rfl) rfl), List.forall_mem_cons.mpr ⟨m_in rfl (in_7 (List.mem_of_getElem? (i := 216) rfl) rfl) rfl (in_7 (List.mem_of_getElem? (i := 215) rfl) rfl) (in_p (i := 52) rfl rfl), List.forall_mem_cons.mpr ⟨m_in rfl (in_7 (List.mem_of_getElem? (i := 220) rfl) rfl) rfl (in_7 (List.mem_of_getElem? (i := 219) rfl) rfl) (in_p (i := 53) rfl rfl), List.forall_mem_cons.mpr ⟨m_in rfl (in_8 (List.mem_of_getElem? (i := 232) rfl) rfl) rfl (in_8 (List.mem_of_getElem? (i := 231) rfl) rfl) (in_p (i := 91) rfl rfl), List.forall_mem_cons.mpr ⟨m_in rfl (in_9 (List.mem_of_getElem? (i := 22) rfl) rfl) rfl (in_9 (List.mem_of_getElem? (i := 20) rfl) rfl) (in_9 (List.mem_of_getElem? (i := 21) rfl) rfl), fun _ h => absurd h List.not_mem_nil⟩⟩⟩⟩⟩⟩⟩⟩⟩⟩⟩⟩⟩⟩⟩⟩
def tm_7 : List (Nat) := [112, 113, 114, 115, 116, 117, 118, 119, 120, 121, 122, 123, 124, 125, 126, 127]
theorem p_tm_7 : ∀ q ∈ tm_7, pr_m q := List.forall_mem_cons.mpr ⟨m_in rfl (in_8 (List.mem_of_getElem? (i := 95) rfl) rfl) rfl (in_8 (List.mem_of_getElem? (i := 93) rfl) rfl) (in_8 (List.mem_of_getElem? (i := 94) rfl) rfl), List.forall_mem_cons.mpr ⟨m_in rfl (in_7 (List.mem_of_getElem? (i := 192) rfl) rfl) rfl (in_7 (List.mem_of_getElem? (i := 191) rfl) rfl) (in_p (i := 48) rfl rfl), List.forall_mem_cons.mpr ⟨m_in rfl (in_8 (List.mem_of_getElem? (i := 180) rfl) rfl) rfl (in_8 (List.mem_of_getElem? (i := 179) rfl) rfl) (in_p (i := 85) rfl rfl), List.forall_mem_cons.mpr ⟨m_in rfl (in_8 (List.mem_of_getElem? (i := 6) rfl) rfl) rfl (in_8 (List.mem_of_getElem? (i := 5) rfl) rfl) (in_p (i := 56) rfl rfl), List.forall_mem_cons.mpr ⟨m_st rfl (in_7 (List.mem_of_getElem? (i := 137) rfl) rfl) rfl (in_7 (List.mem_of_getElem? (i := 136) rfl) rfl), List.forall_mem_cons.mpr ⟨m_in rfl (in_7 (List.mem_of_getElem? (i := 188) rfl) rfl) rfl (in_7 (List.mem_of_getElem? (i := 187) rfl) rfl) (in_p (i := 47) rfl rfl), List.forall_mem_cons.mpr ⟨m_in rfl (in_7 (List.mem_of_getElem? (i := 145) rfl) rfl) rfl (in_7 (List.mem_of_getElem? (i := 144) rfl) rfl) (in_p (i := 44) rfl rfl), List.forall_mem_cons.mpr ⟨m_in rfl (in_8 (List.mem_of_getElem? (i := 164) rfl) rfl) rfl (in_8 (List.mem_of_getElem? (i := 163) rfl) rfl) (in_p (i := 81) rfl rfl), List.forall_mem_cons.mpr ⟨m_in rfl (in_8 (List.mem_of_getElem? (i := 119) rfl) rfl) rfl (in_8 (List.mem_of_getElem? (i := 118) rfl) rfl) (in_p (i := 75) rfl rfl), List.forall_mem_cons.mpr ⟨m_in rfl (in_8 (List.mem_of_getElem? (i := 168) rfl) rfl) rfl (in_8 (List.mem_of_getElem? (i := 167) rfl) rfl) (in_p (i := 82) rfl rfl), List.forall_mem_cons.mpr ⟨m_in rfl (in_7 (List.mem_of_getElem? (i := 130) rfl) rfl) rfl (in_7 (List.mem_of_getElem? (i := 129) rfl) rfl) (in_p (i := 42) rfl rfl), List.forall_mem_cons.mpr ⟨m_st rfl (in_7 (List.mem_of_getElem? (i := 159) rfl) rfl) rfl (in_7 (List.mem_of_getElem? (i := 158) rfl) rfl), List.forall_mem_cons.mpr ⟨m_in rfl (in_7 (List.mem_of_getElem? (i := 107) rfl) rfl) rfl (in_7 (List.mem_of_getElem? (i := 105) rfl) rfl) (in_7 (List.mem_of_getElem? (i := 106) rfl) rfl), List.forall_mem_cons.mpr ⟨m_in rfl (in_8 (List.mem_of_getElem? (i := 72) rfl) rfl) rfl (in_8 (List.mem_of_getElem? (i := 70) rfl) rfl) (in_8 (List.mem_of_getElem? (i := 71) rfl) rfl), List.forall_mem_cons.mpr ⟨m_in rfl (in_9 (List.mem_of_getElem? (i := 0) rfl) rfl) rfl (in_8 (List.mem_of_getElem? (i := 239) rfl) rfl) (in_p (i := 93) rfl rfl), List.forall_mem_cons.mpr ⟨m_in rfl (in_8 (List.mem_of_getElem? (i := 47) rfl) rfl) rfl (in_8 (List.mem_of_getElem? (i := 46) rfl) rfl) (in_p (i := 66) rfl rfl), fun _ h => absurd h List.not_mem_nil⟩⟩⟩⟩⟩⟩⟩⟩⟩⟩⟩⟩⟩⟩⟩⟩
def tm_8 : List (Nat) := [128, 129, 130, 131, 132, 133, 134, 135, 136, 137, 138, 139, 140, 141, 142, 143]
theorem p_tm_8 : ∀ q ∈ tm_8, pr_m q := List.forall_mem_cons.mpr ⟨m_in rfl (in_7 (List.mem_of_getElem? (i := 204) rfl) rfl) rfl (in_7 (List.mem_of_getElem? (i := 202) rfl) rfl) (in_7 (List.mem_of_getElem? (i := 203) rfl) rfl), List.forall_mem_cons.mpr ⟨m_in rfl (in_8 (List.mem_of_getElem? (i := 208) rfl) rfl) rfl (in_8 (List.mem_of_getElem? (i := 206) rfl) rfl) (in_8 (List.mem_of_getElem? (i := 207) rfl) rfl), List.forall_mem_cons.mpr ⟨m_in rfl (in_7 (List.mem_of_getElem? (i := 141) rfl) rfl) rfl (in_7 (List.mem_of_getElem? (i := 140) rfl) rfl) (in_p (i := 43) rfl rfl), List.forall_mem_cons.mpr ⟨m_in rfl (in_8 (List.mem_of_getElem? (i := 156) rfl) rfl) rfl (in_8 (List.mem_of_getElem? (i := 154) rfl) rfl) (in_8 (List.mem_of_getElem? (i := 155) rfl) rfl), List.forall_mem_cons.mpr ⟨m_st rfl (in_7 (List.mem_of_getElem? (i := 230) rfl) rfl) rfl (in_7 (List.mem_of_getElem? (i := 229) rfl) rfl), List.forall_mem_cons.mpr ⟨m_in rfl (in_9 (List.mem_of_getElem? (i := 42) rfl) rfl) rfl (in_9 (List.mem_of_getElem? (i := 40) rfl) rfl) (in_9 (List.mem_of_getElem? (i := 41) rfl) rfl), List.forall_mem_cons.mpr ⟨m_in rfl (in_8 (List.mem_of_getElem? (i := 111) rfl) rfl) rfl (in_8 (List.mem_of_getElem? (i := 110) rfl) rfl) (in_p (i := 73) rfl rfl), List.forall_mem_cons.mpr ⟨m_in rfl (in_8 (List.mem_of_getElem? (i := 172) rfl) rfl) rfl (in_8 (List.mem_of_getElem? (i := 171) rfl) rfl) (in_p (i := 83) rfl rfl), List.forall_mem_cons.mpr ⟨m_in rfl (in_7 (List.mem_of_getElem? (i := 118) rfl) rfl) rfl (in_7 (List.mem_of_getElem? (i := 116) rfl) rfl) (in_7 (List.mem_of_getElem? (i := 117) rfl) rfl), List.forall_mem_cons.mpr ⟨m_in rfl (in_8 (List.mem_of_getElem? (i := 148) rfl) rfl) rfl (in_8 (List.mem_of_getElem? (i := 146) rfl) rfl) (in_8 (List.mem_of_getElem? (i := 147) rfl) rfl), List.forall_mem_cons.mpr ⟨m_in rfl (in_8 (List.mem_of_getElem? (i := 152) rfl) rfl) rfl (in_8 (List.mem_of_getElem? (i := 150) rfl) rfl) (in_8 (List.mem_of_getElem? (i := 151) rfl) rfl), List.forall_mem_cons.mpr ⟨m_in rfl (in_9 (List.mem_of_getElem? (i := 34) rfl) rfl) rfl (in_9 (List.mem_of_getElem? (i := 32) rfl) rfl) (in_9 (List.mem_of_getElem? (i := 33) rfl) rfl), List.forall_mem_cons.mpr ⟨m_in rfl (in_7 (List.mem_of_getElem? (i := 149) rfl) rfl) rfl (in_7 (List.mem_of_getElem? (i := 147) rfl) rfl) (in_7 (List.mem_of_getElem? (i := 148) rfl) rfl), List.forall_mem_cons.mpr ⟨m_in rfl (in_7 (List.mem_of_getElem? (i := 122) rfl) rfl) rfl (in_7 (List.mem_of_getElem? (i := 120) rfl) rfl) (in_7 (List.mem_of_getElem? (i := 121) rfl) rfl), List.forall_mem_cons.mpr ⟨m_in rfl (in_8 (List.mem_of_getElem? (i := 140) rfl) rfl) rfl (in_8 (List.mem_of_getElem? (i := 139) rfl) rfl) (in_p (i := 79) rfl rfl), List.forall_mem_cons.mpr ⟨m_in rfl (in_5 (List.mem_of_getElem? (i := 47) rfl) rfl) rfl (in_5 (List.mem_of_getElem? (i := 45) rfl) rfl) (in_5 (List.mem_of_getElem? (i := 46) rfl) rfl), fun _ h => absurd h List.not_mem_nil⟩⟩⟩⟩⟩⟩⟩⟩⟩⟩⟩⟩⟩⟩⟩⟩
def tm_9 : List (Nat) := [144, 145, 146, 147, 148, 149, 150, 151, 152, 153, 154, 155, 156, 157, 158, 159]
theorem p_tm_9 : ∀ q ∈ tm_9, pr_m q := List.forall_mem_cons.mpr ⟨m_in rfl (in_5 (List.mem_of_getElem? (i := 62) rfl) rfl) rfl (in_5 (List.mem_of_getElem? (i := 60) rfl) rfl) (in_5 (List.mem_of_getElem? (i := 61) rfl) rfl), List.forall_mem_cons.mpr ⟨m_in rfl (in_6 (List.mem_of_getElem? (i := 14) rfl) rfl) rfl (in_6 (List.mem_of_getElem? (i := 12) rfl) rfl) (in_6 (List.mem_of_getElem? (i := 13) rfl) rfl), List.forall_mem_cons.mpr ⟨m_in rfl (in_4 (List.mem_of_getElem? (i := 156) rfl) rfl) rfl (in_4 (List.mem_of_getElem? (i := 154) rfl) rfl) (in_4 (List.mem_of_getElem? (i := 155) rfl) rfl), List.forall_mem_cons.mpr ⟨m_in rfl (in_4 (List.mem_of_getElem? (i := 113) rfl) rfl) rfl (in_4 (List.mem_of_getElem? (i := 111) rfl) rfl) (in_4 (List.mem_of_getElem? (i := 112) rfl) rfl), List.forall_mem_cons.mpr ⟨m_st rfl (in_3 (List.mem_of_getElem? (i := 48) rfl) rfl) rfl (in_3 (List.mem_of_getElem? (i := 47) rfl) rfl), List.forall_mem_cons.mpr ⟨m_in rfl (in_3 (List.mem_of_getElem? (i := 235) rfl) rfl) rfl (in_3 (List.mem_of_getElem? (i := 234) rfl) rfl) (in_p (i := 9) rfl rfl), List.forall_mem_cons.mpr ⟨m_st rfl (in_3 (List.mem_of_getElem? (i := 91) rfl) rfl) rfl (in_3 (List.mem_of_getElem? (i := 90) rfl) rfl), List.forall_mem_cons.mpr ⟨m_in rfl (in_3 (List.mem_of_getElem? (i := 175) rfl) rfl) rfl (in_3 (List.mem_of_getElem? (i := 174) rfl) rfl) (in_p (i := 4) rfl rfl), List.forall_mem_cons.mpr ⟨m_in rfl (in_5 (List.mem_of_getElem? (i := 39) rfl) rfl) rfl (in_5 (List.mem_of_getElem? (i := 38) rfl) rfl) (in_p (i := 33) rfl rfl), List.forall_mem_cons.mpr ⟨m_st rfl (in_4 (List.mem_of_getElem? (i := 137) rfl) rfl) rfl (in_4 (List.mem_of_getElem? (i := 136) rfl) rfl), List.forall_mem_cons.mpr ⟨m_in rfl (in_3 (List.mem_of_getElem? (i := 80) rfl) rfl) rfl (in_3 (List.mem_of_getElem? (i := 79) rfl) rfl) (in_p (i := 2) rfl rfl), List.forall_mem_cons.mpr ⟨m_in rfl (in_3 (List.mem_of_getElem? (i := 147) rfl) rfl) rfl (in_3 (List.mem_of_getElem? (i := 146) rfl) rfl) (in_p (i := 3) rfl rfl), List.forall_mem_cons.mpr ⟨m_in rfl (in_3 (List.mem_of_getElem? (i := 191) rfl) rfl) rfl (in_3 (List.mem_of_getElem? (i := 189) rfl) rfl) (in_3 (List.mem_of_getElem? (i := 190) rfl) rfl), List.forall_mem_cons.mpr ⟨m_in rfl (in_5 (List.mem_of_getElem? (i := 117) rfl) rfl) rfl (in_5 (List.mem_of_getElem? (i := 115) rfl) rfl) (in_5 (List.mem_of_getElem? (i := 116) rfl) rfl), List.forall_mem_cons.mpr ⟨m_in rfl (in_5 (List.mem_of_getElem? (i := 31) rfl) rfl) rfl (in_5 (List.mem_of_getElem? (i := 29) rfl) rfl) (in_5 (List.mem_of_getElem? (i := 30) rfl) rfl), List.forall_mem_cons.mpr ⟨m_in rfl (in_5 (List.mem_of_getElem? (i := 23) rfl) rfl) rfl (in_5 (List.mem_of_getElem? (i := 21) rfl) rfl) (in_5 (List.mem_of_getElem? (i := 22) rfl) rfl), fun _ h => absurd h List.not_mem_nil⟩⟩⟩⟩⟩⟩⟩⟩⟩⟩⟩⟩⟩⟩⟩⟩
def tm_10 : List (Nat) := [160, 161, 162, 163, 164, 165, 166, 167, 168, 169, 170, 171, 172, 173, 174, 175]
theorem p_tm_10 : ∀ q ∈ tm_10, pr_m q := List.forall_mem_cons.mpr ⟨m_in rfl (in_5 (List.mem_of_getElem? (i := 27) rfl) rfl) rfl (in_5 (List.mem_of_getElem? (i := 25) rfl) rfl) (in_5 (List.mem_of_getElem? (i := 26) rfl) rfl), List.forall_mem_cons.mpr ⟨m_in rfl (in_4 (List.mem_of_getElem? (i := 164) rfl) rfl) rfl (in_4 (List.mem_of_getElem? (i := 162) rfl) rfl) (in_4 (List.mem_of_getElem? (i := 163) rfl) rfl), List.forall_mem_cons.mpr ⟨m_in rfl (in_4 (List.mem_of_getElem? (i := 180) rfl) rfl) rfl (in_4 (List.mem_of_getElem? (i := 178) rfl) rfl) (in_4 (List.mem_of_getElem? (i := 179) rfl) rfl), List.forall_mem_cons.mpr ⟨m_in rfl (in_4 (List.mem_of_getElem? (i := 216) rfl) rfl) rfl (in_4 (List.mem_of_getElem? (i := 214) rfl) rfl) (in_4 (List.mem_of_getElem? (i := 215) rfl) rfl), List.forall_mem_cons.mpr ⟨m_in rfl (in_5 (List.mem_of_getElem? (i := 197) rfl) rfl) rfl (in_5 (List.mem_of_getElem? (i := 195) rfl) rfl) (in_5 (List.mem_of_getElem? (i := 196) rfl) rfl), List.forall_mem_cons.mpr ⟨m_in rfl (in_4 (List.mem_of_getElem? (i := 188) rfl) rfl) rfl (in_4 (List.mem_of_getElem? (i := 186) rfl) rfl) (in_4 (List.mem_of_getElem? (i := 187) rfl) rfl), List.forall_mem_cons.mpr ⟨m_in rfl (in_3 (List.mem_of_getElem? (i := 203) rfl) rfl) rfl (in_3 (List.mem_of_getElem? (i := 202) rfl) rfl) (in_p (i := 5) rfl rfl), List.forall_mem_cons.mpr ⟨m_in rfl (in_4 (List.mem_of_getElem? (i := 74) rfl) rfl) rfl (in_4 (List.mem_of_getElem? (i := 73) rfl) rfl) (in_p (i := 20) rfl rfl), List.forall_mem_cons.mpr ⟨m_in rfl (in_4 (List.mem_of_getElem? (i := 141) rfl) rfl) rfl (in_4 (List.mem_of_getElem? (i := 139) rfl) rfl) (in_4 (List.mem_of_getElem? (i := 140) rfl) rfl), List.forall_mem_cons.mpr ⟨m_in rfl (in_4 (List.mem_of_getElem? (i := 105) rfl) rfl) rfl (in_4 (List.mem_of_getElem? (i := 103) rfl) rfl) (in_4 (List.mem_of_getElem? (i := 104) rfl) rfl), List.forall_mem_cons.mpr ⟨m_in rfl (in_4 (List.mem_of_getElem? (i := 3) rfl) rfl) rfl (in_4 (List.mem_of_getElem? (i := 1) rfl) rfl) (in_4 (List.mem_of_getElem? (i := 2) rfl) rfl), List.forall_mem_cons.mpr ⟨m_in rfl (in_4 (List.mem_of_getElem? (i := 31) rfl) rfl) rfl (in_4 (List.mem_of_getElem? (i := 30) rfl) rfl) (in_p (i := 12) rfl rfl), List.forall_mem_cons.mpr ⟨m_in rfl (in_4 (List.mem_of_getElem? (i := 93) rfl) rfl) rfl (in_4 (List.mem_of_getElem? (i := 92) rfl) rfl) (in_p (i := 22) rfl rfl), List.forall_mem_cons.mpr ⟨m_st rfl (in_5 (List.mem_of_getElem? (i := 166) rfl) rfl) rfl (in_5 (List.mem_of_getElem? (i := 165) rfl) rfl), List.forall_mem_cons.mpr ⟨m_in rfl (in_5 (List.mem_of_getElem? (i := 7) rfl) rfl) rfl (in_5 (List.mem_of_getElem? (i := 5) rfl) rfl) (in_5 (List.mem_of_getElem? (i := 6) rfl) rfl), List.forall_mem_cons.mpr ⟨m_in rfl (in_5 (List.mem_of_getElem? (i := 112) rfl) rfl) rfl (in_5 (List.mem_of_getElem? (i := 111) rfl) rfl) (in_p (i := 36) rfl rfl), fun _ h => absurd h List.not_mem_nil⟩⟩⟩⟩⟩⟩⟩⟩⟩⟩⟩⟩⟩⟩⟩⟩
def tm_11 : List (Nat) := [176, 177, 178, 179, 180, 181, 182, 183, 184, 185, 186, 187, 188, 189, 190, 191]
theorem p_tm_11 : ∀ q ∈ tm_11, pr_m q := List.forall_mem_cons.mpr ⟨m_in rfl (in_5 (List.mem_of_getElem? (i := 43) rfl) rfl) rfl (in_5 (List.mem_of_getElem? (i := 41) rfl) rfl) (in_5 (List.mem_of_getElem? (i := 42) rfl) rfl), List.forall_mem_cons.mpr ⟨m_in rfl (in_7 (List.mem_of_getElem? (i := 134) rfl) rfl) rfl (in_7 (List.mem_of_getElem? (i := 132) rfl) rfl) (in_7 (List.mem_of_getElem? (i := 133) rfl) rfl), List.forall_mem_cons.mpr ⟨m_in rfl (in_7 (List.mem_of_getElem? (i := 164) rfl) rfl) rfl (in_7 (List.mem_of_getElem? (i := 162) rfl) rfl) (in_7 (List.mem_of_getElem? (i := 163) rfl) rfl), List.forall_mem_cons.mpr ⟨m_in rfl (in_7 (List.mem_of_getElem? (i := 184) rfl) rfl) rfl (in_7 (List.mem_of_getElem? (i := 182) rfl) rfl) (in_7 (List.mem_of_getElem? (i := 183) rfl) rfl), List.forall_mem_cons.mpr ⟨m_in rfl (in_7 (List.mem_of_getElem? (i := 126) rfl) rfl) rfl (in_7 (List.mem_of_getElem? (i := 124) rfl) rfl) (in_7 (List.mem_of_getElem? (i := 125) rfl) rfl), List.forall_mem_cons.mpr ⟨m_in rfl (in_8 (List.mem_of_getElem? (i := 228) rfl) rfl) rfl (in_8 (List.mem_of_getElem? (i := 227) rfl) rfl) (in_p (i := 90) rfl rfl), List.forall_mem_cons.mpr ⟨m_in rfl (in_8 (List.mem_of_getElem? (i := 184) rfl) rfl) rfl (in_8 (List.mem_of_getElem? (i := 182) rfl) rfl) (in_8 (List.mem_of_getElem? (i := 183) rfl) rfl), List.forall_mem_cons.mpr ⟨m_in rfl (in_7 (List.mem_of_getElem? (i := 227) rfl) rfl) rfl (in_7 (List.mem_of_getElem? (i := 226) rfl) rfl) (in_p (i := 54) rfl rfl), List.forall_mem_cons.mpr ⟨m_in rfl (in_7 (List.mem_of_getElem? (i := 238) rfl) rfl) rfl (in_7 (List.mem_of_getElem? (i := 237) rfl) rfl) (in_p (i := 55) rfl rfl), List.forall_mem_cons.mpr ⟨m_in rfl (in_9 (List.mem_of_getElem? (i := 50) rfl) rfl) rfl (in_9 (List.mem_of_getElem? (i := 48) rfl) rfl) (in_9 (List.mem_of_getElem? (i := 49) rfl) rfl), List.forall_mem_cons.mpr ⟨m_in rfl (in_8 (List.mem_of_getElem? (i := 144) rfl) rfl) rfl (in_8 (List.mem_of_getElem? (i := 143) rfl) rfl) (in_p (i := 80) rfl rfl), List.forall_mem_cons.mpr ⟨m_in rfl (in_8 (List.mem_of_getElem? (i := 188) rfl) rfl) rfl (in_8 (List.mem_of_getElem? (i := 186) rfl) rfl) (in_8 (List.mem_of_getElem? (i := 187) rfl) rfl), List.forall_mem_cons.mpr ⟨m_in rfl (in_8 (List.mem_of_getElem? (i := 131) rfl) rfl) rfl (in_8 (List.mem_of_getElem? (i := 130) rfl) rfl) (in_p (i := 77) rfl rfl), List.forall_mem_cons.mpr ⟨m_in rfl (in_8 (List.mem_of_getElem? (i := 43) rfl) rfl) rfl (in_8 (List.mem_of_getElem? (i := 42) rfl) rfl) (in_p (i := 65) rfl rfl), List.forall_mem_cons.mpr ⟨m_in rfl (in_7 (List.mem_of_getElem? (i := 156) rfl) rfl) rfl (in_7 (List.mem_of_getElem? (i := 154) rfl) rfl) (in_7 (List.mem_of_getElem? (i := 155) rfl) rfl), List.forall_mem_cons.mpr ⟨m_in rfl (in_8 (List.mem_of_getElem? (i := 200) rfl) rfl) rfl (in_8 (List.mem_of_getElem? (i := 198) rfl) rfl) (in_8 (List.mem_of_getElem? (i := 199) rfl) rfl), fun _ h => absurd h List.not_mem_nil⟩⟩⟩⟩⟩⟩⟩⟩⟩⟩⟩⟩⟩⟩⟩⟩
def tm_12 : List (Nat) := [192, 193, 194, 195, 196, 197, 198, 199, 200, 201, 202, 203, 204, 205, 206, 207]
theorem p_tm_12 : ∀ q ∈ tm_12, pr_m q := List.forall_mem_cons.mpr ⟨m_in rfl (in_8 (List.mem_of_getElem? (i := 160) rfl) rfl) rfl (in_8 (List.mem_of_getElem? (i := 158) rfl) rfl) (in_8 (List.mem_of_getElem? (i := 159) rfl) rfl), List.forall_mem_cons.mpr ⟨m_in rfl (in_7 (List.mem_of_getElem? (i := 172) rfl) rfl) rfl (in_7 (List.mem_of_getElem? (i := 170) rfl) rfl) (in_7 (List.mem_of_getElem? (i := 171) rfl) rfl), List.forall_mem_cons.mpr ⟨m_in rfl (in_7 (List.mem_of_getElem? (i := 176) rfl) rfl) rfl (in_7 (List.mem_of_getElem? (i := 174) rfl) rfl) (in_7 (List.mem_of_getElem? (i := 175) rfl) rfl), List.forall_mem_cons.mpr ⟨m_in rfl (in_5 (List.mem_of_getElem? (i := 58) rfl) rfl) rfl (in_5 (List.mem_of_getElem? (i := 56) rfl) rfl) (in_5 (List.mem_of_getElem? (i := 57) rfl) rfl), List.forall_mem_cons.mpr ⟨m_in rfl (in_6 (List.mem_of_getElem? (i := 1) rfl) rfl) rfl (in_5 (List.mem_of_getElem? (i := 239) rfl) rfl) (in_6 (List.mem_of_getElem? (i := 0) rfl) rfl), List.forall_mem_cons.mpr ⟨m_in rfl (in_3 (List.mem_of_getElem? (i := 88) rfl) rfl) rfl (in_3 (List.mem_of_getElem? (i := 86) rfl) rfl) (in_3 (List.mem_of_getElem? (i := 87) rfl) rfl), List.forall_mem_cons.mpr ⟨m_in rfl (in_3 (List.mem_of_getElem? (i := 143) rfl) rfl) rfl (in_3 (List.mem_of_getElem? (i := 141) rfl) rfl) (in_3 (List.mem_of_getElem? (i := 142) rfl) rfl), List.forall_mem_cons.mpr ⟨m_in rfl (in_3 (List.mem_of_getElem? (i := 171) rfl) rfl) rfl (in_3 (List.mem_of_getElem? (i := 169) rfl) rfl) (in_3 (List.mem_of_getElem? (i := 170) rfl) rfl), List.forall_mem_cons.mpr ⟨m_in rfl (in_6 (List.mem_of_getElem? (i := 30) rfl) rfl) rfl (in_6 (List.mem_of_getElem? (i := 28) rfl) rfl) (in_6 (List.mem_of_getElem? (i := 29) rfl) rfl), List.forall_mem_cons.mpr ⟨m_in rfl (in_6 (List.mem_of_getElem? (i := 42) rfl) rfl) rfl (in_6 (List.mem_of_getElem? (i := 40) rfl) rfl) (in_6 (List.mem_of_getElem? (i := 41) rfl) rfl), List.forall_mem_cons.mpr ⟨m_in rfl (in_4 (List.mem_of_getElem? (i := 117) rfl) rfl) rfl (in_4 (List.mem_of_getElem? (i := 115) rfl) rfl) (in_4 (List.mem_of_getElem? (i := 116) rfl) rfl), List.forall_mem_cons.mpr ⟨m_in rfl (in_3 (List.mem_of_getElem? (i := 76) rfl) rfl) rfl (in_3 (List.mem_of_getElem? (i := 74) rfl) rfl) (in_3 (List.mem_of_getElem? (i := 75) rfl) rfl), List.forall_mem_cons.mpr ⟨m_in rfl (in_3 (List.mem_of_getElem? (i := 223) rfl) rfl) rfl (in_3 (List.mem_of_getElem? (i := 221) rfl) rfl) (in_3 (List.mem_of_getElem? (i := 222) rfl) rfl), List.forall_mem_cons.mpr ⟨m_in rfl (in_3 (List.mem_of_getElem? (i := 42) rfl) rfl) rfl (in_3 (List.mem_of_getElem? (i := 40) rfl) rfl) (in_3 (List.mem_of_getElem? (i := 41) rfl) rfl), List.forall_mem_cons.mpr ⟨m_in rfl (in_3 (List.mem_of_getElem? (i := 128) rfl) rfl) rfl (in_3 (List.mem_of_getElem? (i := 126) rfl) rfl) (in_3 (List.mem_of_getElem? (i := 127) rfl) rfl), List.forall_mem_cons.mpr ⟨m_in rfl (in_6 (List.mem_of_getElem? (i := 38) rfl) rfl) rfl (in_6 (List.mem_of_getElem? (i := 36) rfl) rfl) (in_6 (List.mem_of_getElem? (i := 37) rfl) rfl), fun _ h => absurd h List.not_mem_nil⟩⟩⟩⟩⟩⟩⟩⟩⟩⟩⟩⟩⟩⟩⟩⟩
def tm_13 : List (Nat) := [208, 209, 210, 211, 212, 213, 214, 215, 216, 217, 218, 219, 220, 221, 222, 223]
theorem p_tm_13 : ∀ q ∈ tm_13, pr_m q := List.forall_mem_cons.mpr ⟨m_in rfl (in_3 (List.mem_of_getElem? (i := 60) rfl) rfl) rfl (in_3 (List.mem_of_getElem? (i := 58) rfl) rfl) (in_3 (List.mem_of_getElem? (i := 59) rfl) rfl), List.forall_mem_cons.mpr ⟨m_in rfl (in_6 (List.mem_of_getElem? (i := 26) rfl) rfl) rfl (in_6 (List.mem_of_getElem? (i := 24) rfl) rfl) (in_6 (List.mem_of_getElem? (i := 25) rfl) rfl), List.forall_mem_cons.mpr ⟨m_in rfl (in_3 (List.mem_of_getElem? (i := 155) rfl) rfl) rfl (in_3 (List.mem_of_getElem? (i := 153) rfl) rfl) (in_3 (List.mem_of_getElem? (i := 154) rfl) rfl), List.forall_mem_cons.mpr ⟨m_in rfl (in_3 (List.mem_of_getElem? (i := 115) rfl) rfl) rfl (in_3 (List.mem_of_getElem? (i := 113) rfl) rfl) (in_3 (List.mem_of_getElem? (i := 114) rfl) rfl), List.forall_mem_cons.mpr ⟨m_in rfl (in_3 (List.mem_of_getElem? (i := 163) rfl) rfl) rfl (in_3 (List.mem_of_getElem? (i := 161) rfl) rfl) (in_3 (List.mem_of_getElem? (i := 162) rfl) rfl), List.forall_mem_cons.mpr ⟨m_in rfl (in_3 (List.mem_of_getElem? (i := 64) rfl) rfl) rfl (in_3 (List.mem_of_getElem? (i := 62) rfl) rfl) (in_3 (List.mem_of_getElem? (i := 63) rfl) rfl), List.forall_mem_cons.mpr ⟨m_in rfl (in_4 (List.mem_of_getElem? (i := 197) rfl) rfl) rfl (in_4 (List.mem_of_getElem? (i := 196) rfl) rfl) (in_p (i := 26) rfl rfl), List.forall_mem_cons.mpr ⟨m_in rfl (in_4 (List.mem_of_getElem? (i := 207) rfl) rfl) rfl (in_4 (List.mem_of_getElem? (i := 206) rfl) rfl) (in_p (i := 27) rfl rfl), List.forall_mem_cons.mpr ⟨m_in rfl (in_3 (List.mem_of_getElem? (i := 199) rfl) rfl) rfl (in_3 (List.mem_of_getElem? (i := 197) rfl) rfl) (in_3 (List.mem_of_getElem? (i := 198) rfl) rfl), List.forall_mem_cons.mpr ⟨m_in rfl (in_4 (List.mem_of_getElem? (i := 23) rfl) rfl) rfl (in_4 (List.mem_of_getElem? (i := 21) rfl) rfl) (in_4 (List.mem_of_getElem? (i := 22) rfl) rfl), List.forall_mem_cons.mpr ⟨m_in rfl (in_3 (List.mem_of_getElem? (i := 239) rfl) rfl) rfl (in_3 (List.mem_of_getElem? (i := 237) rfl) rfl) (in_3 (List.mem_of_getElem? (i := 238) rfl) rfl), List.forall_mem_cons.mpr ⟨m_in rfl (in_5 (List.mem_of_getElem? (i := 85) rfl) rfl) rfl (in_5 (List.mem_of_getElem? (i := 83) rfl) rfl) (in_5 (List.mem_of_getElem? (i := 84) rfl) rfl), List.forall_mem_cons.mpr ⟨m_in rfl (in_4 (List.mem_of_getElem? (i := 130) rfl) rfl) rfl (in_4 (List.mem_of_getElem? (i := 128) rfl) rfl) (in_4 (List.mem_of_getElem? (i := 129) rfl) rfl), List.forall_mem_cons.mpr ⟨m_in rfl (in_5 (List.mem_of_getElem? (i := 54) rfl) rfl) rfl (in_5 (List.mem_of_getElem? (i := 52) rfl) rfl) (in_5 (List.mem_of_getElem? (i := 53) rfl) rfl), List.forall_mem_cons.mpr ⟨m_in rfl (in_5 (List.mem_of_getElem? (i := 104) rfl) rfl) rfl (in_5 (List.mem_of_getElem? (i := 102) rfl) rfl) (in_5 (List.mem_of_getElem? (i := 103) rfl) rfl), List.forall_mem_cons.mpr ⟨m_in rfl (in_7 (List.mem_of_getElem? (i := 234) rfl) rfl) rfl (in_7 (List.mem_of_getElem? (i := 232) rfl) rfl) (in_7 (List.mem_of_getElem? (i := 233) rfl) rfl), fun _ h => absurd h List.not_mem_nil⟩⟩⟩⟩⟩⟩⟩⟩⟩⟩⟩⟩⟩⟩⟩⟩
def tm_14 : List (Nat) := [224, 225, 226, 227, 228, 229, 230, 231, 232, 233, 234, 235, 236, 237, 238, 239]
theorem p_tm_14 : ∀ q ∈ tm_14, pr_m q := List.forall_mem_cons.mpr ⟨m_in rfl (in_9 (List.mem_of_getElem? (i := 17) rfl) rfl) rfl (in_9 (List.mem_of_getElem? (i := 16) rfl) rfl) (in_p (i := 96) rfl rfl), List.forall_mem_cons.mpr ⟨m_in rfl (in_8 (List.mem_of_getElem? (i := 27) rfl) rfl) rfl (in_8 (List.mem_of_getElem? (i := 26) rfl) rfl) (in_p (i := 61) rfl rfl), List.forall_mem_cons.mpr ⟨m_in rfl (in_9 (List.mem_of_getElem? (i := 4) rfl) rfl) rfl (in_9 (List.mem_of_getElem? (i := 3) rfl) rfl) (in_p (i := 94) rfl rfl), List.forall_mem_cons.mpr ⟨m_in rfl (in_8 (List.mem_of_getElem? (i := 127) rfl) rfl) rfl (in_8 (List.mem_of_getElem? (i := 126) rfl) rfl) (in_p (i := 76) rfl rfl), List.forall_mem_cons.mpr ⟨m_in rfl (in_7 (List.mem_of_getElem? (i := 212) rfl) rfl) rfl (in_7 (List.mem_of_getElem? (i := 211) rfl) rfl) (in_p (i := 51) rfl rfl), List.forall_mem_cons.mpr ⟨m_in rfl (in_5 (List.mem_of_getElem? (i := 66) rfl) rfl) rfl (in_5 (List.mem_of_getElem? (i := 64) rfl) rfl) (in_5 (List.mem_of_getElem? (i := 65) rfl) rfl), List.forall_mem_cons.mpr ⟨m_in rfl (in_6 (List.mem_of_getElem? (i := 53) rfl) rfl) rfl (in_6 (List.mem_of_getElem? (i := 51) rfl) rfl) (in_6 (List.mem_of_getElem? (i := 52) rfl) rfl), List.forall_mem_cons.mpr ⟨m_in rfl (in_4 (List.mem_of_getElem? (i := 176) rfl) rfl) rfl (in_4 (List.mem_of_getElem? (i := 174) rfl) rfl) (in_4 (List.mem_of_getElem? (i := 175) rfl) rfl), List.forall_mem_cons.mpr ⟨m_in rfl (in_4 (List.mem_of_getElem? (i := 232) rfl) rfl) rfl (in_4 (List.mem_of_getElem? (i := 231) rfl) rfl) (in_p (i := 28) rfl rfl), List.forall_mem_cons.mpr ⟨m_in rfl (in_5 (List.mem_of_getElem? (i := 159) rfl) rfl) rfl (in_5 (List.mem_of_getElem? (i := 157) rfl) rfl) (in_5 (List.mem_of_getElem? (i := 158) rfl) rfl), List.forall_mem_cons.mpr ⟨m_in rfl (in_8 (List.mem_of_getElem? (i := 23) rfl) rfl) rfl (in_8 (List.mem_of_getElem? (i := 22) rfl) rfl) (in_p (i := 60) rfl rfl), List.forall_mem_cons.mpr ⟨m_in rfl (in_8 (List.mem_of_getElem? (i := 224) rfl) rfl) rfl (in_8 (List.mem_of_getElem? (i := 222) rfl) rfl) (in_8 (List.mem_of_getElem? (i := 223) rfl) rfl), List.forall_mem_cons.mpr ⟨m_in rfl (in_8 (List.mem_of_getElem? (i := 107) rfl) rfl) rfl (in_8 (List.mem_of_getElem? (i := 106) rfl) rfl) (in_p (i := 72) rfl rfl), List.forall_mem_cons.mpr ⟨m_in rfl (in_7 (List.mem_of_getElem? (i := 208) rfl) rfl) rfl (in_7 (List.mem_of_getElem? (i := 206) rfl) rfl) (in_7 (List.mem_of_getElem? (i := 207) rfl) rfl), List.forall_mem_cons.mpr ⟨m_in rfl (in_8 (List.mem_of_getElem? (i := 136) rfl) rfl) rfl (in_8 (List.mem_of_getElem? (i := 135) rfl) rfl) (in_p (i := 78) rfl rfl), List.forall_mem_cons.mpr ⟨m_in rfl (in_3 (List.mem_of_getElem? (i := 231) rfl) rfl) rfl (in_3 (List.mem_of_getElem? (i := 229) rfl) rfl) (in_3 (List.mem_of_getElem? (i := 230) rfl) rfl), fun _ h => absurd h List.not_mem_nil⟩⟩⟩⟩⟩⟩⟩⟩⟩⟩⟩⟩⟩⟩⟩⟩
def tm_15 : List (Nat) := [240, 241, 242, 243, 244, 245, 246, 247, 248, 249, 250, 251, 252, 253, 254, 255]
theorem p_tm_15 : ∀ q ∈ tm_15, pr_m q := List.forall_mem_cons.mpr ⟨m_in rfl (in_4 (List.mem_of_getElem? (i := 109) rfl) rfl) rfl (in_4 (List.mem_of_getElem? (i := 107) rfl) rfl) (in_4 (List.mem_of_getElem? (i := 108) rfl) rfl), List.forall_mem_cons.mpr ⟨m_in rfl (in_4 (List.mem_of_getElem? (i := 134) rfl) rfl) rfl (in_4 (List.mem_of_getElem? (i := 132) rfl) rfl) (in_4 (List.mem_of_getElem? (i := 133) rfl) rfl), List.forall_mem_cons.mpr ⟨m_in rfl (in_5 (List.mem_of_getElem? (i := 72) rfl) rfl) rfl (in_5 (List.mem_of_getElem? (i := 70) rfl) rfl) (in_5 (List.mem_of_getElem? (i := 71) rfl) rfl), List.forall_mem_cons.mpr ⟨m_in rfl (in_5 (List.mem_of_getElem? (i := 229) rfl) rfl) rfl (in_5 (List.mem_of_getElem? (i := 228) rfl) rfl) (in_p (i := 40) rfl rfl), List.forall_mem_cons.mpr ⟨m_in rfl (in_5 (List.mem_of_getElem? (i := 90) rfl) rfl) rfl (in_5 (List.mem_of_getElem? (i := 88) rfl) rfl) (in_5 (List.mem_of_getElem? (i := 89) rfl) rfl), List.forall_mem_cons.mpr ⟨m_in rfl (in_4 (List.mem_of_getElem? (i := 122) rfl) rfl) rfl (in_4 (List.mem_of_getElem? (i := 120) rfl) rfl) (in_4 (List.mem_of_getElem? (i := 121) rfl) rfl), List.forall_mem_cons.mpr ⟨m_in rfl (in_5 (List.mem_of_getElem? (i := 35) rfl) rfl) rfl (in_5 (List.mem_of_getElem? (i := 33) rfl) rfl) (in_5 (List.mem_of_getElem? (i := 34) rfl) rfl), List.forall_mem_cons.mpr ⟨m_in rfl (in_5 (List.mem_of_getElem? (i := 81) rfl) rfl) rfl (in_5 (List.mem_of_getElem? (i := 80) rfl) rfl) (in_p (i := 34) rfl rfl), List.forall_mem_cons.mpr ⟨m_in rfl (in_3 (List.mem_of_getElem? (i := 195) rfl) rfl) rfl (in_3 (List.mem_of_getElem? (i := 193) rfl) rfl) (in_3 (List.mem_of_getElem? (i := 194) rfl) rfl), List.forall_mem_cons.mpr ⟨m_in rfl (in_4 (List.mem_of_getElem? (i := 228) rfl) rfl) rfl (in_4 (List.mem_of_getElem? (i := 226) rfl) rfl) (in_4 (List.mem_of_getElem? (i := 227) rfl) rfl), List.forall_mem_cons.mpr ⟨m_in rfl (in_8 (List.mem_of_getElem? (i := 89) rfl) rfl) rfl (in_8 (List.mem_of_getElem? (i := 88) rfl) rfl) (in_p (i := 71) rfl rfl), List.forall_mem_cons.mpr ⟨m_in rfl (in_8 (List.mem_of_getElem? (i := 18) rfl) rfl) rfl (in_8 (List.mem_of_getElem? (i := 17) rfl) rfl) (in_p (i := 59) rfl rfl), List.forall_mem_cons.mpr ⟨m_in rfl (in_8 (List.mem_of_getElem? (i := 103) rfl) rfl) rfl (in_8 (List.mem_of_getElem? (i := 101) rfl) rfl) (in_8 (List.mem_of_getElem? (i := 102) rfl) rfl), List.forall_mem_cons.mpr ⟨m_in rfl (in_6 (List.mem_of_getElem? (i := 18) rfl) rfl) rfl (in_6 (List.mem_of_getElem? (i := 16) rfl) rfl) (in_6 (List.mem_of_getElem? (i := 17) rfl) rfl), List.forall_mem_cons.mpr ⟨m_in rfl (in_5 (List.mem_of_getElem? (i := 225) rfl) rfl) rfl (in_5 (List.mem_of_getElem? (i := 223) rfl) rfl) (in_5 (List.mem_of_getElem? (i := 224) rfl) rfl), List.forall_mem_cons.mpr ⟨m_in rfl (in_5 (List.mem_of_getElem? (i := 125) rfl) rfl) rfl (in_5 (List.mem_of_getElem? (i := 124) rfl) rfl) (in_p (i := 37) rfl rfl), fun _ h => absurd h List.not_mem_nil⟩⟩⟩⟩⟩⟩⟩⟩⟩⟩⟩⟩⟩⟩⟩⟩
def tm_16 : List (Nat) := [256, 257, 258, 259, 260, 261, 262, 263, 264, 265, 266, 267, 268, 269, 270, 271]
theorem p_tm_16 : ∀ q ∈ tm_16, pr_m q := List.forall_mem_cons.mpr ⟨m_in rfl (in_5 (List.mem_of_getElem? (i := 76) rfl) rfl) rfl (in_5 (List.mem_of_getElem? (i := 74) rfl) rfl) (in_5 (List.mem_of_getElem? (i := 75) rfl) rfl), List.forall_mem_cons.mpr ⟨m_in rfl (in_5 (List.mem_of_getElem? (i := 145) rfl) rfl) rfl (in_5 (List.mem_of_getElem? (i := 143) rfl) rfl) (in_5 (List.mem_of_getElem? (i := 144) rfl) rfl), List.forall_mem_cons.mpr ⟨m_in rfl (in_8 (List.mem_of_getElem? (i := 85) rfl) rfl) rfl (in_8 (List.mem_of_getElem? (i := 83) rfl) rfl) (in_8 (List.mem_of_getElem? (i := 84) rfl) rfl), List.forall_mem_cons.mpr ⟨m_in rfl (in_8 (List.mem_of_getElem? (i := 81) rfl) rfl) rfl (in_8 (List.mem_of_getElem? (i := 79) rfl) rfl) (in_8 (List.mem_of_getElem? (i := 80) rfl) rfl), List.forall_mem_cons.mpr ⟨m_in rfl (in_8 (List.mem_of_getElem? (i := 14) rfl) rfl) rfl (in_8 (List.mem_of_getElem? (i := 13) rfl) rfl) (in_p (i := 58) rfl rfl), List.forall_mem_cons.mpr ⟨m_in rfl (in_5 (List.mem_of_getElem? (i := 216) rfl) rfl) rfl (in_5 (List.mem_of_getElem? (i := 215) rfl) rfl) (in_p (i := 39) rfl rfl), List.forall_mem_cons.mpr ⟨m_in rfl (in_5 (List.mem_of_getElem? (i := 121) rfl) rfl) rfl (in_5 (List.mem_of_getElem? (i := 119) rfl) rfl) (in_5 (List.mem_of_getElem? (i := 120) rfl) rfl), List.forall_mem_cons.mpr ⟨m_in rfl (in_4 (List.mem_of_getElem? (i := 172) rfl) rfl) rfl (in_4 (List.mem_of_getElem? (i := 170) rfl) rfl) (in_4 (List.mem_of_getElem? (i := 171) rfl) rfl), List.forall_mem_cons.mpr ⟨m_in rfl (in_8 (List.mem_of_getElem? (i := 2) rfl) rfl) rfl (in_8 (List.mem_of_getElem? (i := 0) rfl) rfl) (in_8 (List.mem_of_getElem? (i := 1) rfl) rfl), List.forall_mem_cons.mpr ⟨m_in rfl (in_8 (List.mem_of_getElem? (i := 68) rfl) rfl) rfl (in_8 (List.mem_of_getElem? (i := 66) rfl) rfl) (in_8 (List.mem_of_getElem? (i := 67) rfl) rfl), List.forall_mem_cons.mpr ⟨m_in rfl (in_9 (List.mem_of_getElem? (i := 13) rfl) rfl) rfl (in_9 (List.mem_of_getElem? (i := 12) rfl) rfl) (in_p (i := 95) rfl rfl), List.forall_mem_cons.mpr ⟨m_in rfl (in_8 (List.mem_of_getElem? (i := 216) rfl) rfl) rfl (in_8 (List.mem_of_getElem? (i := 215) rfl) rfl) (in_p (i := 88) rfl rfl), List.forall_mem_cons.mpr ⟨m_in rfl (in_8 (List.mem_of_getElem? (i := 192) rfl) rfl) rfl (in_8 (List.mem_of_getElem? (i := 190) rfl) rfl) (in_8 (List.mem_of_getElem? (i := 191) rfl) rfl), List.forall_mem_cons.mpr ⟨m_in rfl (in_5 (List.mem_of_getElem? (i := 203) rfl) rfl) rfl (in_5 (List.mem_of_getElem? (i := 202) rfl) rfl) (in_p (i := 38) rfl rfl), List.forall_mem_cons.mpr ⟨m_in rfl (in_9 (List.mem_of_getElem? (i := 26) rfl) rfl) rfl (in_9 (List.mem_of_getElem? (i := 24) rfl) rfl) (in_9 (List.mem_of_getElem? (i := 25) rfl) rfl), List.forall_mem_cons.mpr ⟨m_in rfl (in_9 (List.mem_of_getElem? (i := 9) rfl) rfl) rfl (in_9 (List.mem_of_getElem? (i := 7) rfl) rfl) (in_9 (List.mem_of_getElem? (i := 8) rfl) rfl), fun _ h => absurd h List.not_mem_nil⟩⟩⟩⟩⟩⟩⟩⟩⟩⟩⟩⟩⟩⟩⟩⟩
def tm_17 : List (Nat) := [272, 273, 274]
theorem p_tm_17 : ∀ q ∈ tm_17, pr_m q := List.forall_mem_cons.mpr ⟨m_in rfl (in_8 (List.mem_of_getElem? (i := 212) rfl) rfl) rfl (in_8 (List.mem_of_getElem? (i := 210) rfl) rfl) (in_8 (List.mem_of_getElem? (i := 211) rfl) rfl), List.forall_mem_cons.mpr ⟨m_in rfl (in_5 (List.mem_of_getElem? (i := 140) rfl) rfl) rfl (in_5 (List.mem_of_getElem? (i := 138) rfl) rfl) (in_5 (List.mem_of_getElem? (i := 139) rfl) rfl), List.forall_mem_cons.mpr ⟨m_in rfl (in_5 (List.mem_of_getElem? (i := 136) rfl) rfl) rfl (in_5 (List.mem_of_getElem? (i := 134) rfl) rfl) (in_5 (List.mem_of_getElem? (i := 135) rfl) rfl), fun _ h => absurd h List.not_mem_nil⟩⟩⟩
def tm : List (Nat) := tm_0 ++ (tm_1 ++ (tm_2 ++ (tm_3 ++ (tm_4 ++ (tm_5 ++ (tm_6 ++ (tm_7 ++ (tm_8 ++ (tm_9 ++ (tm_10 ++ (tm_11 ++ (tm_12 ++ (tm_13 ++ (tm_14 ++ (tm_15 ++ (tm_16 ++ (tm_17)))))))))))))))))
theorem p_tm : ∀ q ∈ tm, pr_m q := List.forall_mem_append.mpr ⟨p_tm_0, List.forall_mem_append.mpr ⟨p_tm_1, List.forall_mem_append.mpr ⟨p_tm_2, List.forall_mem_append.mpr ⟨p_tm_3, List.forall_mem_append.mpr ⟨p_tm_4, List.forall_mem_append.mpr ⟨p_tm_5, List.forall_mem_append.mpr ⟨p_tm_6, List.forall_mem_append.mpr ⟨p_tm_7, List.forall_mem_append.mpr ⟨p_tm_8, List.forall_mem_append.mpr ⟨p_tm_9, List.forall_mem_append.mpr ⟨p_tm_10, List.forall_mem_append.mpr ⟨p_tm_11, List.forall_mem_append.mpr ⟨p_tm_12, List.forall_mem_append.mpr ⟨p_tm_13, List.forall_mem_append.mpr ⟨p_tm_14, List.forall_mem_append.mpr ⟨p_tm_15, List.forall_mem_append.mpr ⟨p_tm_16, p_tm_17⟩⟩⟩⟩⟩⟩⟩⟩⟩⟩⟩⟩⟩⟩⟩⟩⟩
theorem par_0 : ([0, 1, 2, 3, 4, 5, 6, 7, 8, 9, 10, 11, 12, 13, 14, 15, 16, 17, 18, 19, 20, 21, 22, 23, 24] : List Nat).all (fun y => decide ((parseMethodDescriptor (mN y).desc).map (fun d => d.parameters.length) = some (mP y))) = true := by decide +kernel
theorem par_1 : ([25, 26, 27, 28, 29, 30, 31, 32, 33, 34, 35, 36, 37, 38, 39, 40, 41, 42, 43, 44, 45, 46, 47, 48, 49] : List Nat).all (fun y => decide ((parseMethodDescriptor (mN y).desc).map (fun d => d.parameters.length) = some (mP y))) = true := by decide +kernel
theorem par_2 : ([50, 51, 52, 53, 54, 55, 56, 57, 58, 59, 60, 61, 62, 63, 64, 65, 66, 67, 68, 69, 70, 71, 72, 73, 74] : List Nat).all (fun y => decide ((parseMethodDescriptor (mN y).desc).map (fun d => d.parameters.length) = some (mP y))) = true := by decide +kernel
theorem par_3 : ([75, 76, 77, 78, 79, 80, 81, 82, 83, 84, 85, 86, 87, 88, 89, 90, 91, 92, 93, 94, 95, 96, 97, 98, 99] : List Nat).all (fun y => decide ((parseMethodDescriptor (mN y).desc).map (fun d => d.parameters.length) = some (mP y))) = true := by decide +kernel
theorem par_4 : ([100, 101, 102, 103, 104, 105, 106, 107, 108, 109, 110, 111, 112, 113, 114, 115, 116, 117, 118, 119, 120, 121, 122, 123, 124] : List Nat).all (fun y => decide ((parseMethodDescriptor (mN y).desc).map (fun d => d.parameters.length) = some (mP y))) = true := by decide +kernel
theorem par_5 : ([125, 126, 127, 128, 129, 130, 131, 132, 133, 134, 135, 136, 137, 138, 139, 140, 141, 142, 143, 144, 145, 146, 147, 148, 149] : List Nat).all (fun y => decide ((parseMethodDescriptor (mN y).desc).map (fun d => d.parameters.length) = some (mP y))) = true := by decide +kernel
theorem par_6 : ([150, 151, 152, 153, 154, 155, 156, 157, 158, 159, 160, 161, 162, 163, 164, 165, 166, 167, 168, 169, 170, 171, 172, 173, 174] : List Nat).all (fun y => decide ((parseMethodDescriptor (mN y).desc).map (fun d => d.parameters.length) = some (mP y))) = true := by decide +kernel
theorem par_7 : ([175, 176, 177, 178, 179, 180, 181, 182, 183, 184, 185, 186, 187, 188, 189, 190, 191, 192, 193, 194, 195, 196, 197, 198, 199] : List Nat).all (fun y => decide ((parseMethodDescriptor (mN y).desc).map (fun d => d.parameters.length) = some (mP y))) = true := by decide +kernel
theorem par_8 : ([200, 201, 202, 203, 204, 205, 206, 207, 208, 209, 210, 211, 212, 213, 214, 215, 216, 217, 218, 219, 220, 221, 222, 223, 224] : List Nat).all (fun y => decide ((parseMethodDescriptor (mN y).desc).map (fun d => d.parameters.length) = some (mP y))) = true := by decide +kernel
theorem par_9 : ([225, 226, 227, 228, 229, 230, 231, 232, 233, 234, 235, 236, 237, 238, 239, 240, 241, 242, 243, 244, 245, 246, 247, 248, 249] : List Nat).all (fun y => decide ((parseMethodDescriptor (mN y).desc).map (fun d => d.parameters.length) = some (mP y))) = true := by decide +kernel
theorem par_10 : ([250, 251, 252, 253, 254, 255, 256, 257, 258, 259, 260, 261, 262, 263, 264, 265, 266, 267, 268, 269, 270, 271, 272, 273, 274] : List Nat).all (fun y => decide ((parseMethodDescriptor (mN y).desc).map (fun d => d.parameters.length) = some (mP y))) = true := by decide +kernel
theorem am_par {y : Nat} (h : y < 275) : ∀ sig, parseMethodDescriptor (mN y).desc = some sig → mP y = sig.parameters.length := by
  have key : (parseMethodDescriptor (mN y).desc).map (fun d => d.parameters.length) = some (mP y) := by
    by_cases h0 : y < 25
    · exact of_decide_eq_true (List.all_eq_true.mp par_0 y (by have q : ∀ z : Nat, z < 25 → 0 ≤ z → z ∈ ([0, 1, 2, 3, 4, 5, 6, 7, 8, 9, 10, 11, 12, 13, 14, 15, 16, 17, 18, 19, 20, 21, 22, 23, 24] : List Nat) := (by decide +kernel); exact q y h0 (by omega)))
    by_cases h1 : y < 50
    · exact of_decide_eq_true (List.all_eq_true.mp par_1 y (by have q : ∀ z : Nat, z < 50 → 25 ≤ z → z ∈ ([25, 26, 27, 28, 29, 30, 31, 32, 33, 34, 35, 36, 37, 38, 39, 40, 41, 42, 43, 44, 45, 46, 47, 48, 49] : List Nat) := (by decide +kernel); exact q y h1 (by omega)))
    by_cases h2 : y < 75
    · exact of_decide_eq_true (List.all_eq_true.mp par_2 y (by have q : ∀ z : Nat, z < 75 → 50 ≤ z → z ∈ ([50, 51, 52, 53, 54, 55, 56, 57, 58, 59, 60, 61, 62, 63, 64, 65, 66, 67, 68, 69, 70, 71, 72, 73, 74] : List Nat) := (by decide +kernel); exact q y h2 (by omega)))
    by_cases h3 : y < 100
    · exact of_decide_eq_true (List.all_eq_true.mp par_3 y (by have q : ∀ z : Nat, z < 100 → 75 ≤ z → z ∈ ([75, 76, 77, 78, 79, 80, 81, 82, 83, 84, 85, 86, 87, 88, 89, 90, 91, 92, 93, 94, 95, 96, 97, 98, 99] : List Nat) := (by decide +kernel); exact q y h3 (by omega)))
    by_cases h4 : y < 125
    · exact of_decide_eq_true (List.all_eq_true.mp par_4 y (by have q : ∀ z : Nat, z < 125 → 100 ≤ z → z ∈ ([100, 101, 102, 103, 104, 105, 106, 107, 108, 109, 110, 111, 112, 113, 114, 115, 116, 117, 118, 119, 120, 121, 122, 123, 124] : List Nat) := (by decide +kernel); exact q y h4 (by omega)))
    by_cases h5 : y < 150
    · exact of_decide_eq_true (List.all_eq_true.mp par_5 y (by have q : ∀ z : Nat, z < 150 → 125 ≤ z → z ∈ ([125, 126, 127, 128, 129, 130, 131, 132, 133, 134, 135, 136, 137, 138, 139, 140, 141, 142, 143, 144, 145, 146, 147, 148, 149] : List Nat) := (by decide +kernel); exact q y h5 (by omega)))
    by_cases h6 : y < 175
    · exact of_decide_eq_true (List.all_eq_true.mp par_6 y (by have q : ∀ z : Nat, z < 175 → 150 ≤ z → z ∈ ([150, 151, 152, 153, 154, 155, 156, 157, 158, 159, 160, 161, 162, 163, 164, 165, 166, 167, 168, 169, 170, 171, 172, 173, 174] : List Nat) := (by decide +kernel); exact q y h6 (by omega)))
    by_cases h7 : y < 200
    · exact of_decide_eq_true (List.all_eq_true.mp par_7 y (by have q : ∀ z : Nat, z < 200 → 175 ≤ z → z ∈ ([175, 176, 177, 178, 179, 180, 181, 182, 183, 184, 185, 186, 187, 188, 189, 190, 191, 192, 193, 194, 195, 196, 197, 198, 199] : List Nat) := (by decide +kernel); exact q y h7 (by omega)))
    by_cases h8 : y < 225
    · exact of_decide_eq_true (List.all_eq_true.mp par_8 y (by have q : ∀ z : Nat, z < 225 → 200 ≤ z → z ∈ ([200, 201, 202, 203, 204, 205, 206, 207, 208, 209, 210, 211, 212, 213, 214, 215, 216, 217, 218, 219, 220, 221, 222, 223, 224] : List Nat) := (by decide +kernel); exact q y h8 (by omega)))
    by_cases h9 : y < 250
    · exact of_decide_eq_true (List.all_eq_true.mp par_9 y (by have q : ∀ z : Nat, z < 250 → 225 ≤ z → z ∈ ([225, 226, 227, 228, 229, 230, 231, 232, 233, 234, 235, 236, 237, 238, 239, 240, 241, 242, 243, 244, 245, 246, 247, 248, 249] : List Nat) := (by decide +kernel); exact q y h9 (by omega)))
    by_cases h10 : y < 275
    · exact of_decide_eq_true (List.all_eq_true.mp par_10 y (by have q : ∀ z : Nat, z < 275 → 250 ≤ z → z ∈ ([250, 251, 252, 253, 254, 255, 256, 257, 258, 259, 260, 261, 262, 263, 264, 265, 266, 267, 268, 269, 270, 271, 272, 273, 274] : List Nat) := (by decide +kernel); exact q y h10 (by omega)))
    · omega
  intro sig hs
  rw [hs] at key
  exact (Option.some.inj key).symm
/-- a field link: owner, place in its pool, kind, field -/
def pr_f (q : Nat × Nat × Nat × Nat) : Prop := Cond.fieldLink (mO q.1) q.2.1 (mO q.2.2.1) (am_fT q.2.2.1 q.2.2.2).2.1 (am_fT q.2.2.1 q.2.2.2).2.2.1 ∈ lw_g
def tf_0 : List (Nat × Nat × Nat × Nat) := [(0, 11, 0, 0), (2, 159, 0, 0), (0, 15, 0, 1), (2, 162, 0, 1), (0, 18, 0, 2), (11, 115, 0, 2), (0, 64, 0, 3), (11, 111, 0, 3), (2, 165, 0, 3), (0, 21, 0, 4), (0, 24, 0, 5), (11, 125, 0, 5), (0, 27, 0, 6), (0, 60, 0, 7), (2, 93, 0, 7), (11, 372, 0, 7)]
theorem p_tf_0 : ∀ q ∈ tf_0, pr_f q := List.forall_mem_cons.mpr ⟨in_1 (List.mem_of_getElem? (i := 35) rfl) rfl, List.forall_mem_cons.mpr ⟨in_1 (List.mem_of_getElem? (i := 36) rfl) rfl, List.forall_mem_cons.mpr ⟨in_1 (List.mem_of_getElem? (i := 37) rfl) rfl, List.forall_mem_cons.mpr ⟨in_1 (List.mem_of_getElem? (i := 38) rfl) rfl, List.forall_mem_cons.mpr ⟨in_1 (List.mem_of_getElem? (i := 39) rfl) rfl, List.forall_mem_cons.mpr ⟨in_1 (List.mem_of_getElem? (i := 40) rfl) rfl, List.forall_mem_cons.mpr ⟨in_1 (List.mem_of_getElem? (i := 41) rfl) rfl, List.forall_mem_cons.mpr ⟨in_1 (List.mem_of_getElem? (i := 42) rfl) rfl, List.forall_mem_cons.mpr ⟨in_1 (List.mem_of_getElem? (i := 43) rfl) rfl, List.forall_mem_cons.mpr ⟨in_1 (List.mem_of_getElem? (i := 44) rfl) rfl, List.forall_mem_cons.mpr ⟨in_1 (List.mem_of_getElem? (i := 45) rfl) rfl, List.forall_mem_cons.mpr ⟨in_1 (List.mem_of_getElem? (i := 46) rfl) rfl, List.forall_mem_cons.mpr ⟨in_1 (List.mem_of_getElem? (i := 47) rfl) rfl, List.forall_mem_cons.mpr ⟨in_1 (List.mem_of_getElem? (i := 48) rfl) rfl, List.forall_mem_cons.mpr ⟨in_1 (List.mem_of_getElem? (i := 49) rfl) rfl, List.forall_mem_cons.mpr ⟨in_1 (List.mem_of_getElem? (i := 50) rfl) rfl, fun _ h => absurd h List.not_mem_nil⟩⟩⟩⟩⟩⟩⟩⟩⟩⟩⟩⟩⟩⟩⟩⟩
def tf_1 : List (Nat × Nat × Nat × Nat) := [(0, 30, 0, 8), (0, 33, 0, 9), (0, 36, 0, 10), (0, 39, 0, 11), (2, 138, 0, 11), (0, 42, 0, 12), (0, 45, 0, 13), (2, 280, 0, 13), (0, 75, 0, 14), (11, 344, 0, 14), (0, 48, 0, 15), (0, 51, 0, 16), (0, 78, 0, 17), (11, 140, 0, 17), (0, 54, 0, 18), (0, 57, 0, 19)]
theorem p_tf_1 : ∀ q ∈ tf_1, pr_f q := List.forall_mem_cons.mpr ⟨in_1 (List.mem_of_getElem? (i := 51) rfl) rfl, List.forall_mem_cons.mpr ⟨in_1 (List.mem_of_getElem? (i := 52) rfl) rfl, List.forall_mem_cons.mpr ⟨in_1 (List.mem_of_getElem? (i := 53) rfl) rfl, List.forall_mem_cons.mpr ⟨in_1 (List.mem_of_getElem? (i := 54) rfl) rfl, List.forall_mem_cons.mpr ⟨in_1 (List.mem_of_getElem? (i := 55) rfl) rfl, List.forall_mem_cons.mpr ⟨in_1 (List.mem_of_getElem? (i := 56) rfl) rfl, List.forall_mem_cons.mpr ⟨in_1 (List.mem_of_getElem? (i := 57) rfl) rfl, List.forall_mem_cons.mpr ⟨in_1 (List.mem_of_getElem? (i := 58) rfl) rfl, List.forall_mem_cons.mpr ⟨in_1 (List.mem_of_getElem? (i := 59) rfl) rfl, List.forall_mem_cons.mpr ⟨in_1 (List.mem_of_getElem? (i := 60) rfl) rfl, List.forall_mem_cons.mpr ⟨in_1 (List.mem_of_getElem? (i := 61) rfl) rfl, List.forall_mem_cons.mpr ⟨in_1 (List.mem_of_getElem? (i := 62) rfl) rfl, List.forall_mem_cons.mpr ⟨in_1 (List.mem_of_getElem? (i := 63) rfl) rfl, List.forall_mem_cons.mpr ⟨in_1 (List.mem_of_getElem? (i := 64) rfl) rfl, List.forall_mem_cons.mpr ⟨in_1 (List.mem_of_getElem? (i := 65) rfl) rfl, List.forall_mem_cons.mpr ⟨in_1 (List.mem_of_getElem? (i := 66) rfl) rfl, fun _ h => absurd h List.not_mem_nil⟩⟩⟩⟩⟩⟩⟩⟩⟩⟩⟩⟩⟩⟩⟩⟩
def tf_2 : List (Nat × Nat × Nat × Nat) := [(2, 203, 0, 19), (3, 64, 3, 0), (2, 103, 3, 0), (11, 178, 3, 0), (3, 11, 3, 1), (3, 15, 3, 2), (3, 18, 3, 3), (3, 60, 3, 4), (11, 375, 3, 4), (3, 22, 3, 5), (3, 25, 3, 6), (3, 28, 3, 7), (3, 31, 3, 8), (3, 67, 3, 9), (11, 378, 3, 9), (3, 34, 3, 10)]
theorem p_tf_2 : ∀ q ∈ tf_2, pr_f q := List.forall_mem_cons.mpr ⟨in_1 (List.mem_of_getElem? (i := 67) rfl) rfl, List.forall_mem_cons.mpr ⟨in_1 (List.mem_of_getElem? (i := 116) rfl) rfl, List.forall_mem_cons.mpr ⟨in_1 (List.mem_of_getElem? (i := 117) rfl) rfl, List.forall_mem_cons.mpr ⟨in_1 (List.mem_of_getElem? (i := 118) rfl) rfl, List.forall_mem_cons.mpr ⟨in_1 (List.mem_of_getElem? (i := 119) rfl) rfl, List.forall_mem_cons.mpr ⟨in_1 (List.mem_of_getElem? (i := 120) rfl) rfl, List.forall_mem_cons.mpr ⟨in_1 (List.mem_of_getElem? (i := 121) rfl) rfl, List.forall_mem_cons.mpr ⟨in_1 (List.mem_of_getElem? (i := 122) rfl) rfl, List.forall_mem_cons.mpr ⟨in_1 (List.mem_of_getElem? (i := 123) rfl) rfl, List.forall_mem_cons.mpr ⟨in_1 (List.mem_of_getElem? (i := 124) rfl) rfl, List.forall_mem_cons.mpr ⟨in_1 (List.mem_of_getElem? (i := 125) rfl) rfl, List.forall_mem_cons.mpr ⟨in_1 (List.mem_of_getElem? (i := 126) rfl) rfl, List.forall_mem_cons.mpr ⟨in_1 (List.mem_of_getElem? (i := 127) rfl) rfl, List.forall_mem_cons.mpr ⟨in_1 (List.mem_of_getElem? (i := 128) rfl) rfl, List.forall_mem_cons.mpr ⟨in_1 (List.mem_of_getElem? (i := 129) rfl) rfl, List.forall_mem_cons.mpr ⟨in_1 (List.mem_of_getElem? (i := 130) rfl) rfl, fun _ h => absurd h List.not_mem_nil⟩⟩⟩⟩⟩⟩⟩⟩⟩⟩⟩⟩⟩⟩⟩⟩
def tf_3 : List (Nat × Nat × Nat × Nat) := [(2, 79, 3, 10), (3, 37, 3, 11), (2, 82, 3, 11), (3, 40, 3, 12), (3, 43, 3, 13), (3, 46, 3, 14), (3, 49, 3, 15), (2, 72, 3, 16), (3, 70, 3, 16), (11, 381, 3, 16), (2, 9, 2, 0), (2, 15, 2, 1), (2, 19, 2, 2), (2, 23, 2, 3), (2, 27, 2, 4), (2, 32, 2, 5)]
theorem p_tf_3 : ∀ q ∈ tf_3, pr_f q := List.forall_mem_cons.mpr ⟨in_1 (List.mem_of_getElem? (i := 131) rfl) rfl, List.forall_mem_cons.mpr ⟨in_1 (List.mem_of_getElem? (i := 132) rfl) rfl, List.forall_mem_cons.mpr ⟨in_1 (List.mem_of_getElem? (i := 133) rfl) rfl, List.forall_mem_cons.mpr ⟨in_1 (List.mem_of_getElem? (i := 134) rfl) rfl, List.forall_mem_cons.mpr ⟨in_1 (List.mem_of_getElem? (i := 135) rfl) rfl, List.forall_mem_cons.mpr ⟨in_1 (List.mem_of_getElem? (i := 136) rfl) rfl, List.forall_mem_cons.mpr ⟨in_1 (List.mem_of_getElem? (i := 137) rfl) rfl, List.forall_mem_cons.mpr ⟨in_1 (List.mem_of_getElem? (i := 138) rfl) rfl, List.forall_mem_cons.mpr ⟨in_1 (List.mem_of_getElem? (i := 139) rfl) rfl, List.forall_mem_cons.mpr ⟨in_1 (List.mem_of_getElem? (i := 140) rfl) rfl, List.forall_mem_cons.mpr ⟨in_1 (List.mem_of_getElem? (i := 183) rfl) rfl, List.forall_mem_cons.mpr ⟨in_1 (List.mem_of_getElem? (i := 184) rfl) rfl, List.forall_mem_cons.mpr ⟨in_1 (List.mem_of_getElem? (i := 185) rfl) rfl, List.forall_mem_cons.mpr ⟨in_1 (List.mem_of_getElem? (i := 186) rfl) rfl, List.forall_mem_cons.mpr ⟨in_1 (List.mem_of_getElem? (i := 187) rfl) rfl, List.forall_mem_cons.mpr ⟨in_1 (List.mem_of_getElem? (i := 188) rfl) rfl, fun _ h => absurd h List.not_mem_nil⟩⟩⟩⟩⟩⟩⟩⟩⟩⟩⟩⟩⟩⟩⟩⟩
def tf_4 : List (Nat × Nat × Nat × Nat) := [(2, 117, 2, 6), (2, 68, 2, 7), (2, 35, 2, 8), (2, 38, 2, 9), (2, 42, 2, 10), (2, 45, 2, 11), (2, 48, 2, 12), (2, 173, 2, 13), (4, 13, 4, 0), (2, 111, 4, 0), (4, 17, 4, 1), (2, 114, 4, 1), (4, 60, 4, 2), (2, 100, 4, 2), (4, 20, 4, 3), (4, 25, 4, 4)]
theorem p_tf_4 : ∀ q ∈ tf_4, pr_f q := List.forall_mem_cons.mpr ⟨in_1 (List.mem_of_getElem? (i := 189) rfl) rfl, List.forall_mem_cons.mpr ⟨in_1 (List.mem_of_getElem? (i := 190) rfl) rfl, List.forall_mem_cons.mpr ⟨in_1 (List.mem_of_getElem? (i := 191) rfl) rfl, List.forall_mem_cons.mpr ⟨in_1 (List.mem_of_getElem? (i := 192) rfl) rfl, List.forall_mem_cons.mpr ⟨in_1 (List.mem_of_getElem? (i := 193) rfl) rfl, List.forall_mem_cons.mpr ⟨in_1 (List.mem_of_getElem? (i := 194) rfl) rfl, List.forall_mem_cons.mpr ⟨in_1 (List.mem_of_getElem? (i := 195) rfl) rfl, List.forall_mem_cons.mpr ⟨in_1 (List.mem_of_getElem? (i := 196) rfl) rfl, List.forall_mem_cons.mpr ⟨in_1 (List.mem_of_getElem? (i := 235) rfl) rfl, List.forall_mem_cons.mpr ⟨in_1 (List.mem_of_getElem? (i := 236) rfl) rfl, List.forall_mem_cons.mpr ⟨in_1 (List.mem_of_getElem? (i := 237) rfl) rfl, List.forall_mem_cons.mpr ⟨in_1 (List.mem_of_getElem? (i := 238) rfl) rfl, List.forall_mem_cons.mpr ⟨in_1 (List.mem_of_getElem? (i := 239) rfl) rfl, List.forall_mem_cons.mpr ⟨in_2 (List.mem_of_getElem? (i := 0) rfl) rfl, List.forall_mem_cons.mpr ⟨in_2 (List.mem_of_getElem? (i := 1) rfl) rfl, List.forall_mem_cons.mpr ⟨in_2 (List.mem_of_getElem? (i := 2) rfl) rfl, fun _ h => absurd h List.not_mem_nil⟩⟩⟩⟩⟩⟩⟩⟩⟩⟩⟩⟩⟩⟩⟩⟩
def tf_5 : List (Nat × Nat × Nat × Nat) := [(4, 28, 4, 5), (4, 31, 4, 6), (4, 72, 4, 7), (4, 34, 4, 8), (4, 37, 4, 9), (10, 9, 10, 0), (10, 13, 10, 1), (11, 252, 10, 1), (9, 21, 10, 2), (7, 23, 10, 2), (10, 17, 10, 2), (9, 39, 9, 0), (2, 245, 9, 0), (9, 70, 9, 1), (2, 266, 9, 1), (9, 17, 9, 2)]
theorem p_tf_5 : ∀ q ∈ tf_5, pr_f q := List.forall_mem_cons.mpr ⟨in_2 (List.mem_of_getElem? (i := 3) rfl) rfl, List.forall_mem_cons.mpr ⟨in_2 (List.mem_of_getElem? (i := 4) rfl) rfl, List.forall_mem_cons.mpr ⟨in_2 (List.mem_of_getElem? (i := 5) rfl) rfl, List.forall_mem_cons.mpr ⟨in_2 (List.mem_of_getElem? (i := 6) rfl) rfl, List.forall_mem_cons.mpr ⟨in_2 (List.mem_of_getElem? (i := 7) rfl) rfl, List.forall_mem_cons.mpr ⟨in_2 (List.mem_of_getElem? (i := 35) rfl) rfl, List.forall_mem_cons.mpr ⟨in_2 (List.mem_of_getElem? (i := 36) rfl) rfl, List.forall_mem_cons.mpr ⟨in_2 (List.mem_of_getElem? (i := 37) rfl) rfl, List.forall_mem_cons.mpr ⟨in_2 (List.mem_of_getElem? (i := 38) rfl) rfl, List.forall_mem_cons.mpr ⟨in_2 (List.mem_of_getElem? (i := 39) rfl) rfl, List.forall_mem_cons.mpr ⟨in_2 (List.mem_of_getElem? (i := 40) rfl) rfl, List.forall_mem_cons.mpr ⟨in_2 (List.mem_of_getElem? (i := 54) rfl) rfl, List.forall_mem_cons.mpr ⟨in_2 (List.mem_of_getElem? (i := 55) rfl) rfl, List.forall_mem_cons.mpr ⟨in_2 (List.mem_of_getElem? (i := 56) rfl) rfl, List.forall_mem_cons.mpr ⟨in_2 (List.mem_of_getElem? (i := 57) rfl) rfl, List.forall_mem_cons.mpr ⟨in_2 (List.mem_of_getElem? (i := 58) rfl) rfl, fun _ h => absurd h List.not_mem_nil⟩⟩⟩⟩⟩⟩⟩⟩⟩⟩⟩⟩⟩⟩⟩⟩
def tf_6 : List (Nat × Nat × Nat × Nat) := [(2, 250, 9, 2), (9, 9, 9, 3), (2, 256, 9, 3), (9, 13, 9, 4), (2, 253, 9, 4), (6, 15, 6, 0), (2, 226, 6, 0), (11, 285, 6, 0), (6, 19, 6, 1), (2, 229, 6, 1), (11, 288, 6, 1), (6, 25, 6, 2), (1, 46, 6, 2), (11, 291, 6, 2), (6, 28, 6, 3), (11, 294, 6, 3)]
theorem p_tf_6 : ∀ q ∈ tf_6, pr_f q := List.forall_mem_cons.mpr ⟨in_2 (List.mem_of_getElem? (i := 59) rfl) rfl, List.forall_mem_cons.mpr ⟨in_2 (List.mem_of_getElem? (i := 60) rfl) rfl, List.forall_mem_cons.mpr ⟨in_2 (List.mem_of_getElem? (i := 61) rfl) rfl, List.forall_mem_cons.mpr ⟨in_2 (List.mem_of_getElem? (i := 62) rfl) rfl, List.forall_mem_cons.mpr ⟨in_2 (List.mem_of_getElem? (i := 63) rfl) rfl, List.forall_mem_cons.mpr ⟨in_2 (List.mem_of_getElem? (i := 81) rfl) rfl, List.forall_mem_cons.mpr ⟨in_2 (List.mem_of_getElem? (i := 82) rfl) rfl, List.forall_mem_cons.mpr ⟨in_2 (List.mem_of_getElem? (i := 83) rfl) rfl, List.forall_mem_cons.mpr ⟨in_2 (List.mem_of_getElem? (i := 84) rfl) rfl, List.forall_mem_cons.mpr ⟨in_2 (List.mem_of_getElem? (i := 85) rfl) rfl, List.forall_mem_cons.mpr ⟨in_2 (List.mem_of_getElem? (i := 86) rfl) rfl, List.forall_mem_cons.mpr ⟨in_2 (List.mem_of_getElem? (i := 87) rfl) rfl, List.forall_mem_cons.mpr ⟨in_2 (List.mem_of_getElem? (i := 88) rfl) rfl, List.forall_mem_cons.mpr ⟨in_2 (List.mem_of_getElem? (i := 89) rfl) rfl, List.forall_mem_cons.mpr ⟨in_2 (List.mem_of_getElem? (i := 90) rfl) rfl, List.forall_mem_cons.mpr ⟨in_2 (List.mem_of_getElem? (i := 91) rfl) rfl, fun _ h => absurd h List.not_mem_nil⟩⟩⟩⟩⟩⟩⟩⟩⟩⟩⟩⟩⟩⟩⟩⟩
def tf_7 : List (Nat × Nat × Nat × Nat) := [(6, 11, 6, 4), (4, 46, 6, 4), (2, 125, 6, 4), (11, 201, 6, 4), (6, 22, 6, 5), (1, 30, 6, 5), (4, 40, 6, 5), (2, 120, 6, 5), (11, 198, 6, 5), (11, 206, 6, 6), (2, 235, 6, 6), (1, 33, 6, 7), (11, 209, 6, 7), (2, 238, 6, 7), (5, 28, 5, 0), (11, 300, 5, 0)]
theorem p_tf_7 : ∀ q ∈ tf_7, pr_f q := List.forall_mem_cons.mpr ⟨in_2 (List.mem_of_getElem? (i := 92) rfl) rfl, List.forall_mem_cons.mpr ⟨in_2 (List.mem_of_getElem? (i := 93) rfl) rfl, List.forall_mem_cons.mpr ⟨in_2 (List.mem_of_getElem? (i := 94) rfl) rfl, List.forall_mem_cons.mpr ⟨in_2 (List.mem_of_getElem? (i := 95) rfl) rfl, List.forall_mem_cons.mpr ⟨in_2 (List.mem_of_getElem? (i := 96) rfl) rfl, List.forall_mem_cons.mpr ⟨in_2 (List.mem_of_getElem? (i := 97) rfl) rfl, List.forall_mem_cons.mpr ⟨in_2 (List.mem_of_getElem? (i := 98) rfl) rfl, List.forall_mem_cons.mpr ⟨in_2 (List.mem_of_getElem? (i := 99) rfl) rfl, List.forall_mem_cons.mpr ⟨in_2 (List.mem_of_getElem? (i := 100) rfl) rfl, List.forall_mem_cons.mpr ⟨in_2 (List.mem_of_getElem? (i := 101) rfl) rfl, List.forall_mem_cons.mpr ⟨in_2 (List.mem_of_getElem? (i := 102) rfl) rfl, List.forall_mem_cons.mpr ⟨in_2 (List.mem_of_getElem? (i := 103) rfl) rfl, List.forall_mem_cons.mpr ⟨in_2 (List.mem_of_getElem? (i := 104) rfl) rfl, List.forall_mem_cons.mpr ⟨in_2 (List.mem_of_getElem? (i := 105) rfl) rfl, List.forall_mem_cons.mpr ⟨in_2 (List.mem_of_getElem? (i := 131) rfl) rfl, List.forall_mem_cons.mpr ⟨in_2 (List.mem_of_getElem? (i := 132) rfl) rfl, fun _ h => absurd h List.not_mem_nil⟩⟩⟩⟩⟩⟩⟩⟩⟩⟩⟩⟩⟩⟩⟩⟩
def tf_8 : List (Nat × Nat × Nat × Nat) := [(5, 9, 5, 1), (4, 82, 5, 1), (5, 15, 5, 2), (4, 85, 5, 2), (7, 38, 7, 0), (11, 423, 7, 0), (7, 19, 7, 1), (7, 9, 7, 2), (7, 13, 7, 3), (7, 16, 7, 4), (11, 357, 1, 0), (11, 366, 1, 1), (11, 369, 1, 2), (1, 41, 1, 3), (11, 413, 1, 3), (1, 27, 1, 4)]
theorem p_tf_8 : ∀ q ∈ tf_8, pr_f q := List.forall_mem_cons.mpr ⟨in_2 (List.mem_of_getElem? (i := 133) rfl) rfl, List.forall_mem_cons.mpr ⟨in_2 (List.mem_of_getElem? (i := 134) rfl) rfl, List.forall_mem_cons.mpr ⟨in_2 (List.mem_of_getElem? (i := 135) rfl) rfl, List.forall_mem_cons.mpr ⟨in_2 (List.mem_of_getElem? (i := 136) rfl) rfl, List.forall_mem_cons.mpr ⟨in_2 (List.mem_of_getElem? (i := 151) rfl) rfl, List.forall_mem_cons.mpr ⟨in_2 (List.mem_of_getElem? (i := 152) rfl) rfl, List.forall_mem_cons.mpr ⟨in_2 (List.mem_of_getElem? (i := 153) rfl) rfl, List.forall_mem_cons.mpr ⟨in_2 (List.mem_of_getElem? (i := 154) rfl) rfl, List.forall_mem_cons.mpr ⟨in_2 (List.mem_of_getElem? (i := 155) rfl) rfl, List.forall_mem_cons.mpr ⟨in_2 (List.mem_of_getElem? (i := 156) rfl) rfl, List.forall_mem_cons.mpr ⟨in_2 (List.mem_of_getElem? (i := 177) rfl) rfl, List.forall_mem_cons.mpr ⟨in_2 (List.mem_of_getElem? (i := 178) rfl) rfl, List.forall_mem_cons.mpr ⟨in_2 (List.mem_of_getElem? (i := 179) rfl) rfl, List.forall_mem_cons.mpr ⟨in_2 (List.mem_of_getElem? (i := 180) rfl) rfl, List.forall_mem_cons.mpr ⟨in_2 (List.mem_of_getElem? (i := 181) rfl) rfl, List.forall_mem_cons.mpr ⟨in_2 (List.mem_of_getElem? (i := 182) rfl) rfl, fun _ h => absurd h List.not_mem_nil⟩⟩⟩⟩⟩⟩⟩⟩⟩⟩⟩⟩⟩⟩⟩⟩
def tf_9 : List (Nat × Nat × Nat × Nat) := [(1, 10, 1, 5), (11, 360, 1, 5), (8, 9, 8, 0), (11, 230, 8, 0), (8, 17, 8, 1), (11, 233, 8, 1), (8, 13, 8, 2), (11, 220, 8, 2), (11, 10, 11, 0), (11, 19, 11, 1), (11, 28, 11, 2), (11, 35, 11, 3), (11, 42, 11, 4), (11, 49, 11, 5), (11, 56, 11, 6), (11, 60, 11, 7)]
theorem p_tf_9 : ∀ q ∈ tf_9, pr_f q := List.forall_mem_cons.mpr ⟨in_2 (List.mem_of_getElem? (i := 183) rfl) rfl, List.forall_mem_cons.mpr ⟨in_2 (List.mem_of_getElem? (i := 184) rfl) rfl, List.forall_mem_cons.mpr ⟨in_2 (List.mem_of_getElem? (i := 205) rfl) rfl, List.forall_mem_cons.mpr ⟨in_2 (List.mem_of_getElem? (i := 206) rfl) rfl, List.forall_mem_cons.mpr ⟨in_2 (List.mem_of_getElem? (i := 207) rfl) rfl, List.forall_mem_cons.mpr ⟨in_2 (List.mem_of_getElem? (i := 208) rfl) rfl, List.forall_mem_cons.mpr ⟨in_2 (List.mem_of_getElem? (i := 209) rfl) rfl, List.forall_mem_cons.mpr ⟨in_2 (List.mem_of_getElem? (i := 210) rfl) rfl, List.forall_mem_cons.mpr ⟨in_2 (List.mem_of_getElem? (i := 218) rfl) rfl, List.forall_mem_cons.mpr ⟨in_2 (List.mem_of_getElem? (i := 219) rfl) rfl, List.forall_mem_cons.mpr ⟨in_2 (List.mem_of_getElem? (i := 220) rfl) rfl, List.forall_mem_cons.mpr ⟨in_2 (List.mem_of_getElem? (i := 221) rfl) rfl, List.forall_mem_cons.mpr ⟨in_2 (List.mem_of_getElem? (i := 222) rfl) rfl, List.forall_mem_cons.mpr ⟨in_2 (List.mem_of_getElem? (i := 223) rfl) rfl, List.forall_mem_cons.mpr ⟨in_2 (List.mem_of_getElem? (i := 224) rfl) rfl, List.forall_mem_cons.mpr ⟨in_2 (List.mem_of_getElem? (i := 225) rfl) rfl, fun _ h => absurd h List.not_mem_nil⟩⟩⟩⟩⟩⟩⟩⟩⟩⟩⟩⟩⟩⟩⟩⟩
def tf_10 : List (Nat × Nat × Nat × Nat) := [(11, 71, 11, 8), (11, 260, 11, 9), (11, 66, 11, 10), (11, 297, 11, 11), (11, 76, 11, 12), (11, 350, 11, 13), (11, 83, 11, 14), (11, 354, 11, 15), (11, 90, 11, 16), (11, 95, 11, 17), (11, 337, 11, 18), (11, 137, 11, 19), (12, 204, 12, 0), (12, 7, 12, 1), (12, 13, 12, 2), (12, 16, 12, 3)]
theorem p_tf_10 : ∀ q ∈ tf_10, pr_f q := List.forall_mem_cons.mpr ⟨in_2 (List.mem_of_getElem? (i := 226) rfl) rfl, List.forall_mem_cons.mpr ⟨in_2 (List.mem_of_getElem? (i := 227) rfl) rfl, List.forall_mem_cons.mpr ⟨in_2 (List.mem_of_getElem? (i := 228) rfl) rfl, List.forall_mem_cons.mpr ⟨in_2 (List.mem_of_getElem? (i := 229) rfl) rfl, List.forall_mem_cons.mpr ⟨in_2 (List.mem_of_getElem? (i := 230) rfl) rfl, List.forall_mem_cons.mpr ⟨in_2 (List.mem_of_getElem? (i := 231) rfl) rfl, List.forall_mem_cons.mpr ⟨in_2 (List.mem_of_getElem? (i := 232) rfl) rfl, List.forall_mem_cons.mpr ⟨in_2 (List.mem_of_getElem? (i := 233) rfl) rfl, List.forall_mem_cons.mpr ⟨in_2 (List.mem_of_getElem? (i := 234) rfl) rfl, List.forall_mem_cons.mpr ⟨in_2 (List.mem_of_getElem? (i := 235) rfl) rfl, List.forall_mem_cons.mpr ⟨in_2 (List.mem_of_getElem? (i := 236) rfl) rfl, List.forall_mem_cons.mpr ⟨in_2 (List.mem_of_getElem? (i := 237) rfl) rfl, List.forall_mem_cons.mpr ⟨in_6 (List.mem_of_getElem? (i := 61) rfl) rfl, List.forall_mem_cons.mpr ⟨in_6 (List.mem_of_getElem? (i := 62) rfl) rfl, List.forall_mem_cons.mpr ⟨in_6 (List.mem_of_getElem? (i := 63) rfl) rfl, List.forall_mem_cons.mpr ⟨in_6 (List.mem_of_getElem? (i := 64) rfl) rfl, fun _ h => absurd h List.not_mem_nil⟩⟩⟩⟩⟩⟩⟩⟩⟩⟩⟩⟩⟩⟩⟩⟩
def tf_11 : List (Nat × Nat × Nat × Nat) := [(12, 187, 12, 4), (12, 20, 12, 5), (12, 23, 12, 6), (12, 26, 12, 7), (12, 29, 12, 8), (12, 32, 12, 9), (12, 191, 12, 10), (12, 35, 12, 11), (12, 38, 12, 12), (12, 41, 12, 13), (12, 240, 12, 14), (12, 237, 12, 15), (12, 44, 12, 16), (12, 47, 12, 17), (12, 51, 12, 18), (12, 247, 12, 19)]
theorem p_tf_11 : ∀ q ∈ tf_11, pr_f q := List.forall_mem_cons.mpr ⟨in_6 (List.mem_of_getElem? (i := 65) rfl) rfl, List.forall_mem_cons.mpr ⟨in_6 (List.mem_of_getElem? (i := 66) rfl) rfl, List.forall_mem_cons.mpr ⟨in_6 (List.mem_of_getElem? (i := 67) rfl) rfl, List.forall_mem_cons.mpr ⟨in_6 (List.mem_of_getElem? (i := 68) rfl) rfl, List.forall_mem_cons.mpr ⟨in_6 (List.mem_of_getElem? (i := 69) rfl) rfl, List.forall_mem_cons.mpr ⟨in_6 (List.mem_of_getElem? (i := 70) rfl) rfl, List.forall_mem_cons.mpr ⟨in_6 (List.mem_of_getElem? (i := 71) rfl) rfl, List.forall_mem_cons.mpr ⟨in_6 (List.mem_of_getElem? (i := 72) rfl) rfl, List.forall_mem_cons.mpr ⟨in_6 (List.mem_of_getElem? (i := 73) rfl) rfl, List.forall_mem_cons.mpr ⟨in_6 (List.mem_of_getElem? (i := 74) rfl) rfl, List.forall_mem_cons.mpr ⟨in_6 (List.mem_of_getElem? (i := 75) rfl) rfl, List.forall_mem_cons.mpr ⟨in_6 (List.mem_of_getElem? (i := 76) rfl) rfl, List.forall_mem_cons.mpr ⟨in_6 (List.mem_of_getElem? (i := 77) rfl) rfl, List.forall_mem_cons.mpr ⟨in_6 (List.mem_of_getElem? (i := 78) rfl) rfl, List.forall_mem_cons.mpr ⟨in_6 (List.mem_of_getElem? (i := 79) rfl) rfl, List.forall_mem_cons.mpr ⟨in_6 (List.mem_of_getElem? (i := 80) rfl) rfl, fun _ h => absurd h List.not_mem_nil⟩⟩⟩⟩⟩⟩⟩⟩⟩⟩⟩⟩⟩⟩⟩⟩
def tf_12 : List (Nat × Nat × Nat × Nat) := [(12, 54, 12, 20), (12, 57, 12, 21), (12, 60, 12, 22), (12, 63, 12, 23), (12, 259, 12, 24), (12, 66, 12, 25), (12, 69, 12, 26), (12, 72, 12, 27), (12, 75, 12, 28), (12, 78, 12, 29), (12, 81, 12, 30), (12, 201, 12, 31), (12, 84, 12, 32), (12, 87, 12, 33), (12, 225, 12, 34), (12, 90, 12, 35)]
theorem p_tf_12 : ∀ q ∈ tf_12, pr_f q := List.forall_mem_cons.mpr ⟨in_6 (List.mem_of_getElem? (i := 81) rfl) rfl, List.forall_mem_cons.mpr ⟨in_6 (List.mem_of_getElem? (i := 82) rfl) rfl, List.forall_mem_cons.mpr ⟨in_6 (List.mem_of_getElem? (i := 83) rfl) rfl, List.forall_mem_cons.mpr ⟨in_6 (List.mem_of_getElem? (i := 84) rfl) rfl, List.forall_mem_cons.mpr ⟨in_6 (List.mem_of_getElem? (i := 85) rfl) rfl, List.forall_mem_cons.mpr ⟨in_6 (List.mem_of_getElem? (i := 86) rfl) rfl, List.forall_mem_cons.mpr ⟨in_6 (List.mem_of_getElem? (i := 87) rfl) rfl, List.forall_mem_cons.mpr ⟨in_6 (List.mem_of_getElem? (i := 88) rfl) rfl, List.forall_mem_cons.mpr ⟨in_6 (List.mem_of_getElem? (i := 89) rfl) rfl, List.forall_mem_cons.mpr ⟨in_6 (List.mem_of_getElem? (i := 90) rfl) rfl, List.forall_mem_cons.mpr ⟨in_6 (List.mem_of_getElem? (i := 91) rfl) rfl, List.forall_mem_cons.mpr ⟨in_6 (List.mem_of_getElem? (i := 92) rfl) rfl, List.forall_mem_cons.mpr ⟨in_6 (List.mem_of_getElem? (i := 93) rfl) rfl, List.forall_mem_cons.mpr ⟨in_6 (List.mem_of_getElem? (i := 94) rfl) rfl, List.forall_mem_cons.mpr ⟨in_6 (List.mem_of_getElem? (i := 95) rfl) rfl, List.forall_mem_cons.mpr ⟨in_6 (List.mem_of_getElem? (i := 96) rfl) rfl, fun _ h => absurd h List.not_mem_nil⟩⟩⟩⟩⟩⟩⟩⟩⟩⟩⟩⟩⟩⟩⟩⟩
def tf_13 : List (Nat × Nat × Nat × Nat) := [(12, 396, 12, 36), (12, 443, 12, 37), (12, 93, 12, 38), (12, 96, 12, 39), (12, 99, 12, 40), (12, 459, 12, 41), (12, 102, 12, 42), (12, 105, 12, 43), (12, 108, 12, 44), (12, 509, 12, 45), (12, 111, 12, 46), (12, 114, 12, 47), (12, 117, 12, 48), (12, 520, 12, 49), (12, 120, 12, 50), (12, 123, 12, 51)]
theorem p_tf_13 : ∀ q ∈ tf_13, pr_f q := List.forall_mem_cons.mpr ⟨in_6 (List.mem_of_getElem? (i := 97) rfl) rfl, List.forall_mem_cons.mpr ⟨in_6 (List.mem_of_getElem? (i := 98) rfl) rfl, List.forall_mem_cons.mpr ⟨in_6 (List.mem_of_getElem? (i := 99) rfl) rfl, List.forall_mem_cons.mpr ⟨in_6 (List.mem_of_getElem? (i := 100) rfl) rfl, List.forall_mem_cons.mpr ⟨in_6 (List.mem_of_getElem? (i := 101) rfl) rfl, List.forall_mem_cons.mpr ⟨in_6 (List.mem_of_getElem? (i := 102) rfl) rfl, List.forall_mem_cons.mpr ⟨in_6 (List.mem_of_getElem? (i := 103) rfl) rfl, List.forall_mem_cons.mpr ⟨in_6 (List.mem_of_getElem? (i := 104) rfl) rfl, List.forall_mem_cons.mpr ⟨in_6 (List.mem_of_getElem? (i := 105) rfl) rfl, List.forall_mem_cons.mpr ⟨in_6 (List.mem_of_getElem? (i := 106) rfl) rfl, List.forall_mem_cons.mpr ⟨in_6 (List.mem_of_getElem? (i := 107) rfl) rfl, List.forall_mem_cons.mpr ⟨in_6 (List.mem_of_getElem? (i := 108) rfl) rfl, List.forall_mem_cons.mpr ⟨in_6 (List.mem_of_getElem? (i := 109) rfl) rfl, List.forall_mem_cons.mpr ⟨in_6 (List.mem_of_getElem? (i := 110) rfl) rfl, List.forall_mem_cons.mpr ⟨in_6 (List.mem_of_getElem? (i := 111) rfl) rfl, List.forall_mem_cons.mpr ⟨in_6 (List.mem_of_getElem? (i := 112) rfl) rfl, fun _ h => absurd h List.not_mem_nil⟩⟩⟩⟩⟩⟩⟩⟩⟩⟩⟩⟩⟩⟩⟩⟩
def tf_14 : List (Nat × Nat × Nat × Nat) := [(12, 126, 12, 52), (12, 129, 12, 53), (12, 132, 12, 54), (12, 135, 12, 55), (12, 285, 12, 56), (12, 288, 12, 57), (12, 291, 12, 58), (12, 294, 12, 59), (12, 306, 12, 60), (12, 138, 12, 61), (12, 141, 12, 62), (12, 144, 12, 63), (12, 345, 12, 64), (12, 350, 12, 65), (12, 354, 12, 66), (12, 312, 12, 67)]
theorem p_tf_14 : ∀ q ∈ tf_14, pr_f q := List.forall_mem_cons.mpr ⟨in_6 (List.mem_of_getElem? (i := 113) rfl) rfl, List.forall_mem_cons.mpr ⟨in_6 (List.mem_of_getElem? (i := 114) rfl) rfl, List.forall_mem_cons.mpr ⟨in_6 (List.mem_of_getElem? (i := 115) rfl) rfl, List.forall_mem_cons.mpr ⟨in_6 (List.mem_of_getElem? (i := 116) rfl) rfl, List.forall_mem_cons.mpr ⟨in_6 (List.mem_of_getElem? (i := 117) rfl) rfl, List.forall_mem_cons.mpr ⟨in_6 (List.mem_of_getElem? (i := 118) rfl) rfl, List.forall_mem_cons.mpr ⟨in_6 (List.mem_of_getElem? (i := 119) rfl) rfl, List.forall_mem_cons.mpr ⟨in_6 (List.mem_of_getElem? (i := 120) rfl) rfl, List.forall_mem_cons.mpr ⟨in_6 (List.mem_of_getElem? (i := 121) rfl) rfl, List.forall_mem_cons.mpr ⟨in_6 (List.mem_of_getElem? (i := 122) rfl) rfl, List.forall_mem_cons.mpr ⟨in_6 (List.mem_of_getElem? (i := 123) rfl) rfl, List.forall_mem_cons.mpr ⟨in_6 (List.mem_of_getElem? (i := 124) rfl) rfl, List.forall_mem_cons.mpr ⟨in_6 (List.mem_of_getElem? (i := 125) rfl) rfl, List.forall_mem_cons.mpr ⟨in_6 (List.mem_of_getElem? (i := 126) rfl) rfl, List.forall_mem_cons.mpr ⟨in_6 (List.mem_of_getElem? (i := 127) rfl) rfl, List.forall_mem_cons.mpr ⟨in_6 (List.mem_of_getElem? (i := 128) rfl) rfl, fun _ h => absurd h List.not_mem_nil⟩⟩⟩⟩⟩⟩⟩⟩⟩⟩⟩⟩⟩⟩⟩⟩
def tf_15 : List (Nat × Nat × Nat × Nat) := [(12, 318, 12, 68), (12, 309, 12, 69), (12, 315, 12, 70), (12, 147, 12, 71), (12, 364, 12, 72), (12, 367, 12, 73), (12, 370, 12, 74), (12, 399, 12, 75), (12, 402, 12, 76), (12, 408, 12, 77), (12, 427, 12, 78), (12, 150, 12, 79), (12, 153, 12, 80), (12, 432, 12, 81), (12, 440, 12, 82), (12, 156, 12, 83)]
theorem p_tf_15 : ∀ q ∈ tf_15, pr_f q := List.forall_mem_cons.mpr ⟨in_6 (List.mem_of_getElem? (i := 129) rfl) rfl, List.forall_mem_cons.mpr ⟨in_6 (List.mem_of_getElem? (i := 130) rfl) rfl, List.forall_mem_cons.mpr ⟨in_6 (List.mem_of_getElem? (i := 131) rfl) rfl, List.forall_mem_cons.mpr ⟨in_6 (List.mem_of_getElem? (i := 132) rfl) rfl, List.forall_mem_cons.mpr ⟨in_6 (List.mem_of_getElem? (i := 133) rfl) rfl, List.forall_mem_cons.mpr ⟨in_6 (List.mem_of_getElem? (i := 134) rfl) rfl, List.forall_mem_cons.mpr ⟨in_6 (List.mem_of_getElem? (i := 135) rfl) rfl, List.forall_mem_cons.mpr ⟨in_6 (List.mem_of_getElem? (i := 136) rfl) rfl, List.forall_mem_cons.mpr ⟨in_6 (List.mem_of_getElem? (i := 137) rfl) rfl, List.forall_mem_cons.mpr ⟨in_6 (List.mem_of_getElem? (i := 138) rfl) rfl, List.forall_mem_cons.mpr ⟨in_6 (List.mem_of_getElem? (i := 139) rfl) rfl, List.forall_mem_cons.mpr ⟨in_6 (List.mem_of_getElem? (i := 140) rfl) rfl, List.forall_mem_cons.mpr ⟨in_6 (List.mem_of_getElem? (i := 141) rfl) rfl, List.forall_mem_cons.mpr ⟨in_6 (List.mem_of_getElem? (i := 142) rfl) rfl, List.forall_mem_cons.mpr ⟨in_6 (List.mem_of_getElem? (i := 143) rfl) rfl, List.forall_mem_cons.mpr ⟨in_6 (List.mem_of_getElem? (i := 144) rfl) rfl, fun _ h => absurd h List.not_mem_nil⟩⟩⟩⟩⟩⟩⟩⟩⟩⟩⟩⟩⟩⟩⟩⟩
def tf_16 : List (Nat × Nat × Nat × Nat) := [(12, 159, 12, 84), (12, 162, 12, 85), (12, 165, 12, 86), (12, 168, 12, 87), (12, 171, 12, 88), (12, 484, 12, 89), (12, 174, 12, 90), (12, 177, 12, 91), (12, 493, 12, 92), (12, 180, 12, 93)]
theorem p_tf_16 : ∀ q ∈ tf_16, pr_f q := List.forall_mem_cons.mpr ⟨in_6 (List.mem_of_getElem? (i := 145) rfl) rfl, List.forall_mem_cons.mpr ⟨in_6 (List.mem_of_getElem? (i := 146) rfl) rfl, List.forall_mem_cons.mpr ⟨in_6 (List.mem_of_getElem? (i := 147) rfl) rfl, List.forall_mem_cons.mpr ⟨in_6 (List.mem_of_getElem? (i := 148) rfl) rfl, List.forall_mem_cons.mpr ⟨in_6 (List.mem_of_getElem? (i := 149) rfl) rfl, List.forall_mem_cons.mpr ⟨in_6 (List.mem_of_getElem? (i := 150) rfl) rfl, List.forall_mem_cons.mpr ⟨in_6 (List.mem_of_getElem? (i := 151) rfl) rfl, List.forall_mem_cons.mpr ⟨in_6 (List.mem_of_getElem? (i := 152) rfl) rfl, List.forall_mem_cons.mpr ⟨in_6 (List.mem_of_getElem? (i := 153) rfl) rfl, List.forall_mem_cons.mpr ⟨in_6 (List.mem_of_getElem? (i := 154) rfl) rfl, fun _ h => absurd h List.not_mem_nil⟩⟩⟩⟩⟩⟩⟩⟩⟩⟩
def tf : List (Nat × Nat × Nat × Nat) := tf_0 ++ (tf_1 ++ (tf_2 ++ (tf_3 ++ (tf_4 ++ (tf_5 ++ (tf_6 ++ (tf_7 ++ (tf_8 ++ (tf_9 ++ (tf_10 ++ (tf_11 ++ (tf_12 ++ (tf_13 ++ (tf_14 ++ (tf_15 ++ (tf_16))))))))))))))))
theorem p_tf : ∀ q ∈ tf, pr_f q := List.forall_mem_append.mpr ⟨p_tf_0, List.forall_mem_append.mpr ⟨p_tf_1, List.forall_mem_append.mpr ⟨p_tf_2, List.forall_mem_append.mpr ⟨p_tf_3, List.forall_mem_append.mpr ⟨p_tf_4, List.forall_mem_append.mpr ⟨p_tf_5, List.forall_mem_append.mpr ⟨p_tf_6, List.forall_mem_append.mpr ⟨p_tf_7, List.forall_mem_append.mpr ⟨p_tf_8, List.forall_mem_append.mpr ⟨p_tf_9, List.forall_mem_append.mpr ⟨p_tf_10, List.forall_mem_append.mpr ⟨p_tf_11, List.forall_mem_append.mpr ⟨p_tf_12, List.forall_mem_append.mpr ⟨p_tf_13, List.forall_mem_append.mpr ⟨p_tf_14, List.forall_mem_append.mpr ⟨p_tf_15, p_tf_16⟩⟩⟩⟩⟩⟩⟩⟩⟩⟩⟩⟩⟩⟩⟩⟩
/-- a method link: owner, place in its pool, method -/
def pr_l (q : Nat × Nat × Nat) : Prop := Cond.methodLink (mO q.1) q.2.1 (mN q.2.2) ∈ lw_g
def tk_0 : List (Nat × Nat × Nat) := [(18, 13, 205), (11, 99, 72), (11, 103, 148), (11, 107, 84), (0, 67, 1), (18, 18, 208), (18, 23, 213), (11, 118, 85), (0, 71, 0), (18, 28, 203), (11, 122, 154), (11, 128, 83), (18, 32, 197), (11, 131, 150), (11, 134, 90), (0, 88, 13)]
theorem p_tk_0 : ∀ q ∈ tk_0, pr_l q := List.forall_mem_cons.mpr ⟨in_3 (List.mem_of_getElem? (i := 39) rfl) rfl, List.forall_mem_cons.mpr ⟨in_3 (List.mem_of_getElem? (i := 43) rfl) rfl, List.forall_mem_cons.mpr ⟨in_3 (List.mem_of_getElem? (i := 46) rfl) rfl, List.forall_mem_cons.mpr ⟨in_3 (List.mem_of_getElem? (i := 49) rfl) rfl, List.forall_mem_cons.mpr ⟨in_3 (List.mem_of_getElem? (i := 53) rfl) rfl, List.forall_mem_cons.mpr ⟨in_3 (List.mem_of_getElem? (i := 57) rfl) rfl, List.forall_mem_cons.mpr ⟨in_3 (List.mem_of_getElem? (i := 61) rfl) rfl, List.forall_mem_cons.mpr ⟨in_3 (List.mem_of_getElem? (i := 65) rfl) rfl, List.forall_mem_cons.mpr ⟨in_3 (List.mem_of_getElem? (i := 69) rfl) rfl, List.forall_mem_cons.mpr ⟨in_3 (List.mem_of_getElem? (i := 73) rfl) rfl, List.forall_mem_cons.mpr ⟨in_3 (List.mem_of_getElem? (i := 77) rfl) rfl, List.forall_mem_cons.mpr ⟨in_3 (List.mem_of_getElem? (i := 81) rfl) rfl, List.forall_mem_cons.mpr ⟨in_3 (List.mem_of_getElem? (i := 85) rfl) rfl, List.forall_mem_cons.mpr ⟨in_3 (List.mem_of_getElem? (i := 89) rfl) rfl, List.forall_mem_cons.mpr ⟨in_3 (List.mem_of_getElem? (i := 92) rfl) rfl, List.forall_mem_cons.mpr ⟨in_3 (List.mem_of_getElem? (i := 96) rfl) rfl, fun _ h => absurd h List.not_mem_nil⟩⟩⟩⟩⟩⟩⟩⟩⟩⟩⟩⟩⟩⟩⟩⟩
def tk_1 : List (Nat × Nat × Nat) := [(0, 92, 4), (0, 95, 12), (0, 99, 9), (18, 36, 211), (11, 143, 89), (0, 81, 8), (18, 42, 206), (11, 147, 104), (3, 54, 81), (11, 151, 31), (18, 47, 198), (11, 155, 155), (11, 158, 33), (18, 52, 210), (11, 162, 32), (18, 56, 212)]
theorem p_tk_1 : ∀ q ∈ tk_1, pr_l q := List.forall_mem_cons.mpr ⟨in_3 (List.mem_of_getElem? (i := 100) rfl) rfl, List.forall_mem_cons.mpr ⟨in_3 (List.mem_of_getElem? (i := 104) rfl) rfl, List.forall_mem_cons.mpr ⟨in_3 (List.mem_of_getElem? (i := 108) rfl) rfl, List.forall_mem_cons.mpr ⟨in_3 (List.mem_of_getElem? (i := 112) rfl) rfl, List.forall_mem_cons.mpr ⟨in_3 (List.mem_of_getElem? (i := 116) rfl) rfl, List.forall_mem_cons.mpr ⟨in_3 (List.mem_of_getElem? (i := 120) rfl) rfl, List.forall_mem_cons.mpr ⟨in_3 (List.mem_of_getElem? (i := 125) rfl) rfl, List.forall_mem_cons.mpr ⟨in_3 (List.mem_of_getElem? (i := 129) rfl) rfl, List.forall_mem_cons.mpr ⟨in_3 (List.mem_of_getElem? (i := 133) rfl) rfl, List.forall_mem_cons.mpr ⟨in_3 (List.mem_of_getElem? (i := 136) rfl) rfl, List.forall_mem_cons.mpr ⟨in_3 (List.mem_of_getElem? (i := 140) rfl) rfl, List.forall_mem_cons.mpr ⟨in_3 (List.mem_of_getElem? (i := 144) rfl) rfl, List.forall_mem_cons.mpr ⟨in_3 (List.mem_of_getElem? (i := 148) rfl) rfl, List.forall_mem_cons.mpr ⟨in_3 (List.mem_of_getElem? (i := 152) rfl) rfl, List.forall_mem_cons.mpr ⟨in_3 (List.mem_of_getElem? (i := 156) rfl) rfl, List.forall_mem_cons.mpr ⟨in_3 (List.mem_of_getElem? (i := 160) rfl) rfl, fun _ h => absurd h List.not_mem_nil⟩⟩⟩⟩⟩⟩⟩⟩⟩⟩⟩⟩⟩⟩⟩⟩
def tk_2 : List (Nat × Nat × Nat) := [(11, 165, 35), (18, 60, 199), (11, 168, 151), (11, 212, 10), (11, 171, 86), (11, 175, 30), (18, 65, 156), (18, 70, 248), (11, 181, 216), (0, 102, 166), (0, 111, 87), (0, 105, 2), (0, 108, 3), (0, 114, 11), (18, 74, 204), (11, 184, 88)]
theorem p_tk_2 : ∀ q ∈ tk_2, pr_l q := List.forall_mem_cons.mpr ⟨in_3 (List.mem_of_getElem? (i := 164) rfl) rfl, List.forall_mem_cons.mpr ⟨in_3 (List.mem_of_getElem? (i := 168) rfl) rfl, List.forall_mem_cons.mpr ⟨in_3 (List.mem_of_getElem? (i := 172) rfl) rfl, List.forall_mem_cons.mpr ⟨in_3 (List.mem_of_getElem? (i := 176) rfl) rfl, List.forall_mem_cons.mpr ⟨in_3 (List.mem_of_getElem? (i := 180) rfl) rfl, List.forall_mem_cons.mpr ⟨in_3 (List.mem_of_getElem? (i := 184) rfl) rfl, List.forall_mem_cons.mpr ⟨in_3 (List.mem_of_getElem? (i := 188) rfl) rfl, List.forall_mem_cons.mpr ⟨in_3 (List.mem_of_getElem? (i := 192) rfl) rfl, List.forall_mem_cons.mpr ⟨in_3 (List.mem_of_getElem? (i := 196) rfl) rfl, List.forall_mem_cons.mpr ⟨in_3 (List.mem_of_getElem? (i := 200) rfl) rfl, List.forall_mem_cons.mpr ⟨in_3 (List.mem_of_getElem? (i := 204) rfl) rfl, List.forall_mem_cons.mpr ⟨in_3 (List.mem_of_getElem? (i := 208) rfl) rfl, List.forall_mem_cons.mpr ⟨in_3 (List.mem_of_getElem? (i := 212) rfl) rfl, List.forall_mem_cons.mpr ⟨in_3 (List.mem_of_getElem? (i := 216) rfl) rfl, List.forall_mem_cons.mpr ⟨in_3 (List.mem_of_getElem? (i := 220) rfl) rfl, List.forall_mem_cons.mpr ⟨in_3 (List.mem_of_getElem? (i := 224) rfl) rfl, fun _ h => absurd h List.not_mem_nil⟩⟩⟩⟩⟩⟩⟩⟩⟩⟩⟩⟩⟩⟩⟩⟩
def tk_3 : List (Nat × Nat × Nat) := [(18, 78, 239), (11, 187, 149), (11, 190, 218), (2, 51, 170), (2, 55, 10), (2, 89, 88), (2, 96, 12), (2, 59, 35), (2, 65, 21), (2, 76, 34), (2, 85, 18), (11, 194, 217), (2, 131, 67), (2, 134, 171), (2, 176, 98), (2, 155, 13)]
theorem p_tk_3 : ∀ q ∈ tk_3, pr_l q := List.forall_mem_cons.mpr ⟨in_3 (List.mem_of_getElem? (i := 228) rfl) rfl, List.forall_mem_cons.mpr ⟨in_3 (List.mem_of_getElem? (i := 232) rfl) rfl, List.forall_mem_cons.mpr ⟨in_3 (List.mem_of_getElem? (i := 236) rfl) rfl, List.forall_mem_cons.mpr ⟨in_4 (List.mem_of_getElem? (i := 0) rfl) rfl, List.forall_mem_cons.mpr ⟨in_4 (List.mem_of_getElem? (i := 4) rfl) rfl, List.forall_mem_cons.mpr ⟨in_4 (List.mem_of_getElem? (i := 5) rfl) rfl, List.forall_mem_cons.mpr ⟨in_4 (List.mem_of_getElem? (i := 6) rfl) rfl, List.forall_mem_cons.mpr ⟨in_4 (List.mem_of_getElem? (i := 7) rfl) rfl, List.forall_mem_cons.mpr ⟨in_4 (List.mem_of_getElem? (i := 8) rfl) rfl, List.forall_mem_cons.mpr ⟨in_4 (List.mem_of_getElem? (i := 12) rfl) rfl, List.forall_mem_cons.mpr ⟨in_4 (List.mem_of_getElem? (i := 16) rfl) rfl, List.forall_mem_cons.mpr ⟨in_4 (List.mem_of_getElem? (i := 20) rfl) rfl, List.forall_mem_cons.mpr ⟨in_4 (List.mem_of_getElem? (i := 24) rfl) rfl, List.forall_mem_cons.mpr ⟨in_4 (List.mem_of_getElem? (i := 28) rfl) rfl, List.forall_mem_cons.mpr ⟨in_4 (List.mem_of_getElem? (i := 32) rfl) rfl, List.forall_mem_cons.mpr ⟨in_4 (List.mem_of_getElem? (i := 36) rfl) rfl, fun _ h => absurd h List.not_mem_nil⟩⟩⟩⟩⟩⟩⟩⟩⟩⟩⟩⟩⟩⟩⟩⟩
def tk_4 : List (Nat × Nat × Nat) := [(2, 168, 23), (2, 179, 99), (2, 193, 4), (2, 196, 17), (2, 200, 6), (2, 182, 97), (2, 206, 11), (2, 128, 19), (2, 186, 20), (2, 189, 16), (2, 141, 167), (2, 213, 7), (2, 216, 93), (2, 209, 5), (2, 219, 26), (2, 147, 172)]
theorem p_tk_4 : ∀ q ∈ tk_4, pr_l q := List.forall_mem_cons.mpr ⟨in_4 (List.mem_of_getElem? (i := 37) rfl) rfl, List.forall_mem_cons.mpr ⟨in_4 (List.mem_of_getElem? (i := 40) rfl) rfl, List.forall_mem_cons.mpr ⟨in_4 (List.mem_of_getElem? (i := 44) rfl) rfl, List.forall_mem_cons.mpr ⟨in_4 (List.mem_of_getElem? (i := 45) rfl) rfl, List.forall_mem_cons.mpr ⟨in_4 (List.mem_of_getElem? (i := 49) rfl) rfl, List.forall_mem_cons.mpr ⟨in_4 (List.mem_of_getElem? (i := 54) rfl) rfl, List.forall_mem_cons.mpr ⟨in_4 (List.mem_of_getElem? (i := 58) rfl) rfl, List.forall_mem_cons.mpr ⟨in_4 (List.mem_of_getElem? (i := 59) rfl) rfl, List.forall_mem_cons.mpr ⟨in_4 (List.mem_of_getElem? (i := 63) rfl) rfl, List.forall_mem_cons.mpr ⟨in_4 (List.mem_of_getElem? (i := 67) rfl) rfl, List.forall_mem_cons.mpr ⟨in_4 (List.mem_of_getElem? (i := 71) rfl) rfl, List.forall_mem_cons.mpr ⟨in_4 (List.mem_of_getElem? (i := 75) rfl) rfl, List.forall_mem_cons.mpr ⟨in_4 (List.mem_of_getElem? (i := 79) rfl) rfl, List.forall_mem_cons.mpr ⟨in_4 (List.mem_of_getElem? (i := 83) rfl) rfl, List.forall_mem_cons.mpr ⟨in_4 (List.mem_of_getElem? (i := 87) rfl) rfl, List.forall_mem_cons.mpr ⟨in_4 (List.mem_of_getElem? (i := 90) rfl) rfl, fun _ h => absurd h List.not_mem_nil⟩⟩⟩⟩⟩⟩⟩⟩⟩⟩⟩⟩⟩⟩⟩⟩
def tk_5 : List (Nat × Nat × Nat) := [(2, 223, 66), (2, 232, 96), (2, 151, 169), (18, 82, 240), (18, 86, 147), (18, 90, 202), (18, 95, 245), (11, 216, 73), (11, 223, 220), (18, 99, 241), (11, 227, 153), (11, 234, 168), (2, 241, 94), (11, 238, 95), (11, 246, 26), (18, 103, 146)]
theorem p_tk_5 : ∀ q ∈ tk_5, pr_l q := List.forall_mem_cons.mpr ⟨in_4 (List.mem_of_getElem? (i := 94) rfl) rfl, List.forall_mem_cons.mpr ⟨in_4 (List.mem_of_getElem? (i := 98) rfl) rfl, List.forall_mem_cons.mpr ⟨in_4 (List.mem_of_getElem? (i := 102) rfl) rfl, List.forall_mem_cons.mpr ⟨in_4 (List.mem_of_getElem? (i := 106) rfl) rfl, List.forall_mem_cons.mpr ⟨in_4 (List.mem_of_getElem? (i := 110) rfl) rfl, List.forall_mem_cons.mpr ⟨in_4 (List.mem_of_getElem? (i := 114) rfl) rfl, List.forall_mem_cons.mpr ⟨in_4 (List.mem_of_getElem? (i := 119) rfl) rfl, List.forall_mem_cons.mpr ⟨in_4 (List.mem_of_getElem? (i := 123) rfl) rfl, List.forall_mem_cons.mpr ⟨in_4 (List.mem_of_getElem? (i := 127) rfl) rfl, List.forall_mem_cons.mpr ⟨in_4 (List.mem_of_getElem? (i := 131) rfl) rfl, List.forall_mem_cons.mpr ⟨in_4 (List.mem_of_getElem? (i := 135) rfl) rfl, List.forall_mem_cons.mpr ⟨in_4 (List.mem_of_getElem? (i := 138) rfl) rfl, List.forall_mem_cons.mpr ⟨in_4 (List.mem_of_getElem? (i := 142) rfl) rfl, List.forall_mem_cons.mpr ⟨in_4 (List.mem_of_getElem? (i := 146) rfl) rfl, List.forall_mem_cons.mpr ⟨in_4 (List.mem_of_getElem? (i := 152) rfl) rfl, List.forall_mem_cons.mpr ⟨in_4 (List.mem_of_getElem? (i := 153) rfl) rfl, fun _ h => absurd h List.not_mem_nil⟩⟩⟩⟩⟩⟩⟩⟩⟩⟩⟩⟩⟩⟩⟩⟩
def tk_6 : List (Nat × Nat × Nat) := [(11, 253, 77), (18, 108, 161), (11, 257, 78), (18, 113, 263), (11, 263, 231), (9, 26, 162), (10, 20, 82), (9, 29, 165), (10, 24, 81), (9, 44, 214), (9, 73, 79), (9, 48, 215), (9, 52, 76), (9, 56, 163), (10, 28, 80), (11, 267, 67)]
theorem p_tk_6 : ∀ q ∈ tk_6, pr_l q := List.forall_mem_cons.mpr ⟨in_4 (List.mem_of_getElem? (i := 157) rfl) rfl, List.forall_mem_cons.mpr ⟨in_4 (List.mem_of_getElem? (i := 161) rfl) rfl, List.forall_mem_cons.mpr ⟨in_4 (List.mem_of_getElem? (i := 165) rfl) rfl, List.forall_mem_cons.mpr ⟨in_4 (List.mem_of_getElem? (i := 169) rfl) rfl, List.forall_mem_cons.mpr ⟨in_4 (List.mem_of_getElem? (i := 173) rfl) rfl, List.forall_mem_cons.mpr ⟨in_4 (List.mem_of_getElem? (i := 177) rfl) rfl, List.forall_mem_cons.mpr ⟨in_4 (List.mem_of_getElem? (i := 181) rfl) rfl, List.forall_mem_cons.mpr ⟨in_4 (List.mem_of_getElem? (i := 185) rfl) rfl, List.forall_mem_cons.mpr ⟨in_4 (List.mem_of_getElem? (i := 189) rfl) rfl, List.forall_mem_cons.mpr ⟨in_4 (List.mem_of_getElem? (i := 194) rfl) rfl, List.forall_mem_cons.mpr ⟨in_4 (List.mem_of_getElem? (i := 200) rfl) rfl, List.forall_mem_cons.mpr ⟨in_4 (List.mem_of_getElem? (i := 204) rfl) rfl, List.forall_mem_cons.mpr ⟨in_4 (List.mem_of_getElem? (i := 208) rfl) rfl, List.forall_mem_cons.mpr ⟨in_4 (List.mem_of_getElem? (i := 213) rfl) rfl, List.forall_mem_cons.mpr ⟨in_4 (List.mem_of_getElem? (i := 217) rfl) rfl, List.forall_mem_cons.mpr ⟨in_4 (List.mem_of_getElem? (i := 220) rfl) rfl, fun _ h => absurd h List.not_mem_nil⟩⟩⟩⟩⟩⟩⟩⟩⟩⟩⟩⟩⟩⟩⟩⟩
def tk_7 : List (Nat × Nat × Nat) := [(11, 270, 69), (11, 273, 249), (2, 259, 232), (2, 273, 33), (2, 277, 216), (2, 263, 100), (2, 269, 101), (11, 277, 169), (11, 281, 174), (4, 49, 105), (4, 57, 39), (4, 53, 38), (18, 117, 159), (18, 121, 160), (18, 125, 158), (18, 129, 246)]
theorem p_tk_7 : ∀ q ∈ tk_7, pr_l q := List.forall_mem_cons.mpr ⟨in_4 (List.mem_of_getElem? (i := 221) rfl) rfl, List.forall_mem_cons.mpr ⟨in_4 (List.mem_of_getElem? (i := 225) rfl) rfl, List.forall_mem_cons.mpr ⟨in_4 (List.mem_of_getElem? (i := 229) rfl) rfl, List.forall_mem_cons.mpr ⟨in_4 (List.mem_of_getElem? (i := 233) rfl) rfl, List.forall_mem_cons.mpr ⟨in_4 (List.mem_of_getElem? (i := 234) rfl) rfl, List.forall_mem_cons.mpr ⟨in_4 (List.mem_of_getElem? (i := 235) rfl) rfl, List.forall_mem_cons.mpr ⟨in_4 (List.mem_of_getElem? (i := 239) rfl) rfl, List.forall_mem_cons.mpr ⟨in_5 (List.mem_of_getElem? (i := 3) rfl) rfl, List.forall_mem_cons.mpr ⟨in_5 (List.mem_of_getElem? (i := 4) rfl) rfl, List.forall_mem_cons.mpr ⟨in_5 (List.mem_of_getElem? (i := 8) rfl) rfl, List.forall_mem_cons.mpr ⟨in_5 (List.mem_of_getElem? (i := 12) rfl) rfl, List.forall_mem_cons.mpr ⟨in_5 (List.mem_of_getElem? (i := 16) rfl) rfl, List.forall_mem_cons.mpr ⟨in_5 (List.mem_of_getElem? (i := 20) rfl) rfl, List.forall_mem_cons.mpr ⟨in_5 (List.mem_of_getElem? (i := 24) rfl) rfl, List.forall_mem_cons.mpr ⟨in_5 (List.mem_of_getElem? (i := 28) rfl) rfl, List.forall_mem_cons.mpr ⟨in_5 (List.mem_of_getElem? (i := 32) rfl) rfl, fun _ h => absurd h List.not_mem_nil⟩⟩⟩⟩⟩⟩⟩⟩⟩⟩⟩⟩⟩⟩⟩⟩
def tk_8 : List (Nat × Nat × Nat) := [(11, 303, 152), (11, 306, 176), (4, 63, 143), (5, 18, 25), (11, 310, 221), (4, 69, 195), (5, 24, 144), (18, 133, 229), (11, 314, 39), (11, 317, 195), (18, 137, 242), (18, 141, 256), (11, 320, 170), (11, 324, 247), (11, 399, 219), (2, 106, 195)]
theorem p_tk_8 : ∀ q ∈ tk_8, pr_l q := List.forall_mem_cons.mpr ⟨in_5 (List.mem_of_getElem? (i := 36) rfl) rfl, List.forall_mem_cons.mpr ⟨in_5 (List.mem_of_getElem? (i := 40) rfl) rfl, List.forall_mem_cons.mpr ⟨in_5 (List.mem_of_getElem? (i := 44) rfl) rfl, List.forall_mem_cons.mpr ⟨in_5 (List.mem_of_getElem? (i := 48) rfl) rfl, List.forall_mem_cons.mpr ⟨in_5 (List.mem_of_getElem? (i := 51) rfl) rfl, List.forall_mem_cons.mpr ⟨in_5 (List.mem_of_getElem? (i := 55) rfl) rfl, List.forall_mem_cons.mpr ⟨in_5 (List.mem_of_getElem? (i := 59) rfl) rfl, List.forall_mem_cons.mpr ⟨in_5 (List.mem_of_getElem? (i := 63) rfl) rfl, List.forall_mem_cons.mpr ⟨in_5 (List.mem_of_getElem? (i := 67) rfl) rfl, List.forall_mem_cons.mpr ⟨in_5 (List.mem_of_getElem? (i := 68) rfl) rfl, List.forall_mem_cons.mpr ⟨in_5 (List.mem_of_getElem? (i := 69) rfl) rfl, List.forall_mem_cons.mpr ⟨in_5 (List.mem_of_getElem? (i := 73) rfl) rfl, List.forall_mem_cons.mpr ⟨in_5 (List.mem_of_getElem? (i := 77) rfl) rfl, List.forall_mem_cons.mpr ⟨in_5 (List.mem_of_getElem? (i := 78) rfl) rfl, List.forall_mem_cons.mpr ⟨in_5 (List.mem_of_getElem? (i := 82) rfl) rfl, List.forall_mem_cons.mpr ⟨in_5 (List.mem_of_getElem? (i := 86) rfl) rfl, fun _ h => absurd h List.not_mem_nil⟩⟩⟩⟩⟩⟩⟩⟩⟩⟩⟩⟩⟩⟩⟩⟩
def tk_9 : List (Nat × Nat × Nat) := [(18, 145, 244), (11, 328, 22), (11, 334, 37), (11, 340, 222), (4, 75, 36), (4, 78, 175), (4, 88, 144), (18, 149, 157), (18, 153, 262), (11, 347, 255), (11, 403, 68), (11, 407, 24), (18, 157, 274), (11, 353, 273), (7, 30, 257), (10, 31, 103)]
theorem p_tk_9 : ∀ q ∈ tk_9, pr_l q := List.forall_mem_cons.mpr ⟨in_5 (List.mem_of_getElem? (i := 87) rfl) rfl, List.forall_mem_cons.mpr ⟨in_5 (List.mem_of_getElem? (i := 91) rfl) rfl, List.forall_mem_cons.mpr ⟨in_5 (List.mem_of_getElem? (i := 97) rfl) rfl, List.forall_mem_cons.mpr ⟨in_5 (List.mem_of_getElem? (i := 101) rfl) rfl, List.forall_mem_cons.mpr ⟨in_5 (List.mem_of_getElem? (i := 105) rfl) rfl, List.forall_mem_cons.mpr ⟨in_5 (List.mem_of_getElem? (i := 109) rfl) rfl, List.forall_mem_cons.mpr ⟨in_5 (List.mem_of_getElem? (i := 113) rfl) rfl, List.forall_mem_cons.mpr ⟨in_5 (List.mem_of_getElem? (i := 114) rfl) rfl, List.forall_mem_cons.mpr ⟨in_5 (List.mem_of_getElem? (i := 118) rfl) rfl, List.forall_mem_cons.mpr ⟨in_5 (List.mem_of_getElem? (i := 122) rfl) rfl, List.forall_mem_cons.mpr ⟨in_5 (List.mem_of_getElem? (i := 126) rfl) rfl, List.forall_mem_cons.mpr ⟨in_5 (List.mem_of_getElem? (i := 130) rfl) rfl, List.forall_mem_cons.mpr ⟨in_5 (List.mem_of_getElem? (i := 133) rfl) rfl, List.forall_mem_cons.mpr ⟨in_5 (List.mem_of_getElem? (i := 137) rfl) rfl, List.forall_mem_cons.mpr ⟨in_5 (List.mem_of_getElem? (i := 142) rfl) rfl, List.forall_mem_cons.mpr ⟨in_5 (List.mem_of_getElem? (i := 146) rfl) rfl, fun _ h => absurd h List.not_mem_nil⟩⟩⟩⟩⟩⟩⟩⟩⟩⟩⟩⟩⟩⟩⟩⟩
def tk_10 : List (Nat × Nat × Nat) := [(13, 335, 28), (10, 36, 233), (13, 492, 29), (13, 495, 173), (16, 9, 102), (13, 1059, 27), (7, 34, 164), (7, 41, 79), (7, 47, 269), (7, 55, 15), (7, 59, 261), (18, 161, 254), (11, 362, 243), (11, 410, 92), (11, 416, 14), (11, 419, 196)]
theorem p_tk_10 : ∀ q ∈ tk_10, pr_l q := List.forall_mem_cons.mpr ⟨in_5 (List.mem_of_getElem? (i := 150) rfl) rfl, List.forall_mem_cons.mpr ⟨in_5 (List.mem_of_getElem? (i := 156) rfl) rfl, List.forall_mem_cons.mpr ⟨in_5 (List.mem_of_getElem? (i := 160) rfl) rfl, List.forall_mem_cons.mpr ⟨in_5 (List.mem_of_getElem? (i := 164) rfl) rfl, List.forall_mem_cons.mpr ⟨in_5 (List.mem_of_getElem? (i := 167) rfl) rfl, List.forall_mem_cons.mpr ⟨in_5 (List.mem_of_getElem? (i := 172) rfl) rfl, List.forall_mem_cons.mpr ⟨in_5 (List.mem_of_getElem? (i := 194) rfl) rfl, List.forall_mem_cons.mpr ⟨in_5 (List.mem_of_getElem? (i := 198) rfl) rfl, List.forall_mem_cons.mpr ⟨in_5 (List.mem_of_getElem? (i := 200) rfl) rfl, List.forall_mem_cons.mpr ⟨in_5 (List.mem_of_getElem? (i := 204) rfl) rfl, List.forall_mem_cons.mpr ⟨in_5 (List.mem_of_getElem? (i := 213) rfl) rfl, List.forall_mem_cons.mpr ⟨in_5 (List.mem_of_getElem? (i := 222) rfl) rfl, List.forall_mem_cons.mpr ⟨in_5 (List.mem_of_getElem? (i := 226) rfl) rfl, List.forall_mem_cons.mpr ⟨in_5 (List.mem_of_getElem? (i := 230) rfl) rfl, List.forall_mem_cons.mpr ⟨in_5 (List.mem_of_getElem? (i := 234) rfl) rfl, List.forall_mem_cons.mpr ⟨in_5 (List.mem_of_getElem? (i := 238) rfl) rfl, fun _ h => absurd h List.not_mem_nil⟩⟩⟩⟩⟩⟩⟩⟩⟩⟩⟩⟩⟩⟩⟩⟩
def tk_11 : List (Nat × Nat × Nat) := [(7, 68, 91), (1, 35, 25), (1, 43, 24), (7, 72, 70), (18, 165, 145), (18, 169, 253), (18, 173, 71), (18, 177, 209), (18, 181, 200), (11, 384, 75), (18, 185, 207), (18, 189, 201), (11, 387, 74), (18, 193, 230), (11, 396, 205), (18, 17, 124)]
theorem p_tk_11 : ∀ q ∈ tk_11, pr_l q := List.forall_mem_cons.mpr ⟨in_6 (List.mem_of_getElem? (i := 2) rfl) rfl, List.forall_mem_cons.mpr ⟨in_6 (List.mem_of_getElem? (i := 6) rfl) rfl, List.forall_mem_cons.mpr ⟨in_6 (List.mem_of_getElem? (i := 7) rfl) rfl, List.forall_mem_cons.mpr ⟨in_6 (List.mem_of_getElem? (i := 8) rfl) rfl, List.forall_mem_cons.mpr ⟨in_6 (List.mem_of_getElem? (i := 11) rfl) rfl, List.forall_mem_cons.mpr ⟨in_6 (List.mem_of_getElem? (i := 15) rfl) rfl, List.forall_mem_cons.mpr ⟨in_6 (List.mem_of_getElem? (i := 19) rfl) rfl, List.forall_mem_cons.mpr ⟨in_6 (List.mem_of_getElem? (i := 23) rfl) rfl, List.forall_mem_cons.mpr ⟨in_6 (List.mem_of_getElem? (i := 27) rfl) rfl, List.forall_mem_cons.mpr ⟨in_6 (List.mem_of_getElem? (i := 31) rfl) rfl, List.forall_mem_cons.mpr ⟨in_6 (List.mem_of_getElem? (i := 35) rfl) rfl, List.forall_mem_cons.mpr ⟨in_6 (List.mem_of_getElem? (i := 39) rfl) rfl, List.forall_mem_cons.mpr ⟨in_6 (List.mem_of_getElem? (i := 43) rfl) rfl, List.forall_mem_cons.mpr ⟨in_6 (List.mem_of_getElem? (i := 50) rfl) rfl, List.forall_mem_cons.mpr ⟨in_6 (List.mem_of_getElem? (i := 54) rfl) rfl, List.forall_mem_cons.mpr ⟨in_7 (List.mem_of_getElem? (i := 104) rfl) rfl, fun _ h => absurd h List.not_mem_nil⟩⟩⟩⟩⟩⟩⟩⟩⟩⟩⟩⟩⟩⟩⟩⟩
def tk_12 : List (Nat × Nat × Nat) := [(12, 183, 53), (12, 207, 46), (18, 22, 136), (18, 27, 141), (18, 31, 180), (12, 211, 122), (18, 35, 177), (12, 215, 116), (12, 218, 130), (12, 221, 118), (18, 39, 140), (12, 228, 58), (18, 46, 190), (12, 233, 123), (18, 51, 178), (12, 243, 40)]
theorem p_tk_12 : ∀ q ∈ tk_12, pr_l q := List.forall_mem_cons.mpr ⟨in_7 (List.mem_of_getElem? (i := 108) rfl) rfl, List.forall_mem_cons.mpr ⟨in_7 (List.mem_of_getElem? (i := 111) rfl) rfl, List.forall_mem_cons.mpr ⟨in_7 (List.mem_of_getElem? (i := 115) rfl) rfl, List.forall_mem_cons.mpr ⟨in_7 (List.mem_of_getElem? (i := 119) rfl) rfl, List.forall_mem_cons.mpr ⟨in_7 (List.mem_of_getElem? (i := 123) rfl) rfl, List.forall_mem_cons.mpr ⟨in_7 (List.mem_of_getElem? (i := 127) rfl) rfl, List.forall_mem_cons.mpr ⟨in_7 (List.mem_of_getElem? (i := 131) rfl) rfl, List.forall_mem_cons.mpr ⟨in_7 (List.mem_of_getElem? (i := 135) rfl) rfl, List.forall_mem_cons.mpr ⟨in_7 (List.mem_of_getElem? (i := 138) rfl) rfl, List.forall_mem_cons.mpr ⟨in_7 (List.mem_of_getElem? (i := 142) rfl) rfl, List.forall_mem_cons.mpr ⟨in_7 (List.mem_of_getElem? (i := 146) rfl) rfl, List.forall_mem_cons.mpr ⟨in_7 (List.mem_of_getElem? (i := 150) rfl) rfl, List.forall_mem_cons.mpr ⟨in_7 (List.mem_of_getElem? (i := 153) rfl) rfl, List.forall_mem_cons.mpr ⟨in_7 (List.mem_of_getElem? (i := 157) rfl) rfl, List.forall_mem_cons.mpr ⟨in_7 (List.mem_of_getElem? (i := 161) rfl) rfl, List.forall_mem_cons.mpr ⟨in_7 (List.mem_of_getElem? (i := 165) rfl) rfl, fun _ h => absurd h List.not_mem_nil⟩⟩⟩⟩⟩⟩⟩⟩⟩⟩⟩⟩⟩⟩⟩⟩
def tk_13 : List (Nat × Nat × Nat) := [(18, 55, 193), (18, 59, 194), (12, 250, 57), (18, 64, 179), (12, 253, 117), (12, 256, 113), (12, 194, 44), (12, 198, 50), (18, 69, 128), (18, 73, 237), (12, 278, 228), (12, 266, 108), (12, 269, 109), (12, 262, 49), (12, 275, 183), (12, 272, 132)]
theorem p_tk_13 : ∀ q ∈ tk_13, pr_l q := List.forall_mem_cons.mpr ⟨in_7 (List.mem_of_getElem? (i := 169) rfl) rfl, List.forall_mem_cons.mpr ⟨in_7 (List.mem_of_getElem? (i := 173) rfl) rfl, List.forall_mem_cons.mpr ⟨in_7 (List.mem_of_getElem? (i := 177) rfl) rfl, List.forall_mem_cons.mpr ⟨in_7 (List.mem_of_getElem? (i := 181) rfl) rfl, List.forall_mem_cons.mpr ⟨in_7 (List.mem_of_getElem? (i := 185) rfl) rfl, List.forall_mem_cons.mpr ⟨in_7 (List.mem_of_getElem? (i := 189) rfl) rfl, List.forall_mem_cons.mpr ⟨in_7 (List.mem_of_getElem? (i := 193) rfl) rfl, List.forall_mem_cons.mpr ⟨in_7 (List.mem_of_getElem? (i := 197) rfl) rfl, List.forall_mem_cons.mpr ⟨in_7 (List.mem_of_getElem? (i := 201) rfl) rfl, List.forall_mem_cons.mpr ⟨in_7 (List.mem_of_getElem? (i := 205) rfl) rfl, List.forall_mem_cons.mpr ⟨in_7 (List.mem_of_getElem? (i := 209) rfl) rfl, List.forall_mem_cons.mpr ⟨in_7 (List.mem_of_getElem? (i := 213) rfl) rfl, List.forall_mem_cons.mpr ⟨in_7 (List.mem_of_getElem? (i := 217) rfl) rfl, List.forall_mem_cons.mpr ⟨in_7 (List.mem_of_getElem? (i := 221) rfl) rfl, List.forall_mem_cons.mpr ⟨in_7 (List.mem_of_getElem? (i := 224) rfl) rfl, List.forall_mem_cons.mpr ⟨in_7 (List.mem_of_getElem? (i := 228) rfl) rfl, fun _ h => absurd h List.not_mem_nil⟩⟩⟩⟩⟩⟩⟩⟩⟩⟩⟩⟩⟩⟩⟩⟩
def tk_14 : List (Nat × Nat × Nat) := [(18, 77, 223), (12, 281, 184), (18, 81, 264), (12, 373, 115), (12, 376, 43), (12, 380, 260), (12, 341, 251), (12, 323, 234), (12, 297, 225), (12, 300, 54), (12, 303, 55), (12, 326, 63), (12, 329, 189), (12, 333, 127), (12, 337, 56), (12, 357, 45)]
theorem p_tk_14 : ∀ q ∈ tk_14, pr_l q := List.forall_mem_cons.mpr ⟨in_7 (List.mem_of_getElem? (i := 231) rfl) rfl, List.forall_mem_cons.mpr ⟨in_7 (List.mem_of_getElem? (i := 235) rfl) rfl, List.forall_mem_cons.mpr ⟨in_7 (List.mem_of_getElem? (i := 239) rfl) rfl, List.forall_mem_cons.mpr ⟨in_8 (List.mem_of_getElem? (i := 3) rfl) rfl, List.forall_mem_cons.mpr ⟨in_8 (List.mem_of_getElem? (i := 7) rfl) rfl, List.forall_mem_cons.mpr ⟨in_8 (List.mem_of_getElem? (i := 11) rfl) rfl, List.forall_mem_cons.mpr ⟨in_8 (List.mem_of_getElem? (i := 15) rfl) rfl, List.forall_mem_cons.mpr ⟨in_8 (List.mem_of_getElem? (i := 20) rfl) rfl, List.forall_mem_cons.mpr ⟨in_8 (List.mem_of_getElem? (i := 24) rfl) rfl, List.forall_mem_cons.mpr ⟨in_8 (List.mem_of_getElem? (i := 28) rfl) rfl, List.forall_mem_cons.mpr ⟨in_8 (List.mem_of_getElem? (i := 32) rfl) rfl, List.forall_mem_cons.mpr ⟨in_8 (List.mem_of_getElem? (i := 36) rfl) rfl, List.forall_mem_cons.mpr ⟨in_8 (List.mem_of_getElem? (i := 40) rfl) rfl, List.forall_mem_cons.mpr ⟨in_8 (List.mem_of_getElem? (i := 44) rfl) rfl, List.forall_mem_cons.mpr ⟨in_8 (List.mem_of_getElem? (i := 48) rfl) rfl, List.forall_mem_cons.mpr ⟨in_8 (List.mem_of_getElem? (i := 53) rfl) rfl, fun _ h => absurd h List.not_mem_nil⟩⟩⟩⟩⟩⟩⟩⟩⟩⟩⟩⟩⟩⟩⟩⟩
def tk_15 : List (Nat × Nat × Nat) := [(12, 361, 51), (12, 384, 62), (18, 85, 265), (18, 89, 125), (18, 94, 47), (18, 98, 259), (18, 102, 258), (12, 390, 250), (18, 107, 112), (18, 112, 64), (18, 116, 252), (12, 446, 236), (12, 424, 134), (12, 405, 61), (12, 415, 120), (12, 411, 65)]
theorem p_tk_15 : ∀ q ∈ tk_15, pr_l q := List.forall_mem_cons.mpr ⟨in_8 (List.mem_of_getElem? (i := 57) rfl) rfl, List.forall_mem_cons.mpr ⟨in_8 (List.mem_of_getElem? (i := 61) rfl) rfl, List.forall_mem_cons.mpr ⟨in_8 (List.mem_of_getElem? (i := 65) rfl) rfl, List.forall_mem_cons.mpr ⟨in_8 (List.mem_of_getElem? (i := 69) rfl) rfl, List.forall_mem_cons.mpr ⟨in_8 (List.mem_of_getElem? (i := 73) rfl) rfl, List.forall_mem_cons.mpr ⟨in_8 (List.mem_of_getElem? (i := 78) rfl) rfl, List.forall_mem_cons.mpr ⟨in_8 (List.mem_of_getElem? (i := 82) rfl) rfl, List.forall_mem_cons.mpr ⟨in_8 (List.mem_of_getElem? (i := 86) rfl) rfl, List.forall_mem_cons.mpr ⟨in_8 (List.mem_of_getElem? (i := 92) rfl) rfl, List.forall_mem_cons.mpr ⟨in_8 (List.mem_of_getElem? (i := 96) rfl) rfl, List.forall_mem_cons.mpr ⟨in_8 (List.mem_of_getElem? (i := 100) rfl) rfl, List.forall_mem_cons.mpr ⟨in_8 (List.mem_of_getElem? (i := 104) rfl) rfl, List.forall_mem_cons.mpr ⟨in_8 (List.mem_of_getElem? (i := 108) rfl) rfl, List.forall_mem_cons.mpr ⟨in_8 (List.mem_of_getElem? (i := 112) rfl) rfl, List.forall_mem_cons.mpr ⟨in_8 (List.mem_of_getElem? (i := 116) rfl) rfl, List.forall_mem_cons.mpr ⟨in_8 (List.mem_of_getElem? (i := 120) rfl) rfl, fun _ h => absurd h List.not_mem_nil⟩⟩⟩⟩⟩⟩⟩⟩⟩⟩⟩⟩⟩⟩⟩⟩
def tk_16 : List (Nat × Nat × Nat) := [(12, 436, 227), (12, 419, 188), (12, 449, 238), (12, 452, 142), (12, 455, 186), (18, 120, 137), (18, 124, 138), (18, 128, 131), (18, 132, 192), (12, 465, 119), (12, 468, 121), (12, 471, 135), (12, 462, 60), (12, 474, 114), (18, 136, 182), (18, 140, 187)]
theorem p_tk_16 : ∀ q ∈ tk_16, pr_l q := List.forall_mem_cons.mpr ⟨in_8 (List.mem_of_getElem? (i := 124) rfl) rfl, List.forall_mem_cons.mpr ⟨in_8 (List.mem_of_getElem? (i := 128) rfl) rfl, List.forall_mem_cons.mpr ⟨in_8 (List.mem_of_getElem? (i := 133) rfl) rfl, List.forall_mem_cons.mpr ⟨in_8 (List.mem_of_getElem? (i := 137) rfl) rfl, List.forall_mem_cons.mpr ⟨in_8 (List.mem_of_getElem? (i := 141) rfl) rfl, List.forall_mem_cons.mpr ⟨in_8 (List.mem_of_getElem? (i := 145) rfl) rfl, List.forall_mem_cons.mpr ⟨in_8 (List.mem_of_getElem? (i := 149) rfl) rfl, List.forall_mem_cons.mpr ⟨in_8 (List.mem_of_getElem? (i := 153) rfl) rfl, List.forall_mem_cons.mpr ⟨in_8 (List.mem_of_getElem? (i := 157) rfl) rfl, List.forall_mem_cons.mpr ⟨in_8 (List.mem_of_getElem? (i := 161) rfl) rfl, List.forall_mem_cons.mpr ⟨in_8 (List.mem_of_getElem? (i := 165) rfl) rfl, List.forall_mem_cons.mpr ⟨in_8 (List.mem_of_getElem? (i := 169) rfl) rfl, List.forall_mem_cons.mpr ⟨in_8 (List.mem_of_getElem? (i := 173) rfl) rfl, List.forall_mem_cons.mpr ⟨in_8 (List.mem_of_getElem? (i := 177) rfl) rfl, List.forall_mem_cons.mpr ⟨in_8 (List.mem_of_getElem? (i := 181) rfl) rfl, List.forall_mem_cons.mpr ⟨in_8 (List.mem_of_getElem? (i := 185) rfl) rfl, fun _ h => absurd h List.not_mem_nil⟩⟩⟩⟩⟩⟩⟩⟩⟩⟩⟩⟩⟩⟩⟩⟩
def tk_17 : List (Nat × Nat × Nat) := [(18, 144, 268), (12, 477, 42), (18, 148, 191), (12, 480, 59), (18, 152, 129), (18, 156, 272), (12, 490, 267), (12, 487, 41), (18, 160, 235), (12, 502, 181), (12, 499, 110), (12, 496, 52), (12, 506, 126), (12, 512, 226), (18, 164, 271), (12, 523, 266)]
theorem p_tk_17 : ∀ q ∈ tk_17, pr_l q := List.forall_mem_cons.mpr ⟨in_8 (List.mem_of_getElem? (i := 189) rfl) rfl, List.forall_mem_cons.mpr ⟨in_8 (List.mem_of_getElem? (i := 193) rfl) rfl, List.forall_mem_cons.mpr ⟨in_8 (List.mem_of_getElem? (i := 197) rfl) rfl, List.forall_mem_cons.mpr ⟨in_8 (List.mem_of_getElem? (i := 201) rfl) rfl, List.forall_mem_cons.mpr ⟨in_8 (List.mem_of_getElem? (i := 205) rfl) rfl, List.forall_mem_cons.mpr ⟨in_8 (List.mem_of_getElem? (i := 209) rfl) rfl, List.forall_mem_cons.mpr ⟨in_8 (List.mem_of_getElem? (i := 213) rfl) rfl, List.forall_mem_cons.mpr ⟨in_8 (List.mem_of_getElem? (i := 217) rfl) rfl, List.forall_mem_cons.mpr ⟨in_8 (List.mem_of_getElem? (i := 221) rfl) rfl, List.forall_mem_cons.mpr ⟨in_8 (List.mem_of_getElem? (i := 225) rfl) rfl, List.forall_mem_cons.mpr ⟨in_8 (List.mem_of_getElem? (i := 229) rfl) rfl, List.forall_mem_cons.mpr ⟨in_8 (List.mem_of_getElem? (i := 233) rfl) rfl, List.forall_mem_cons.mpr ⟨in_8 (List.mem_of_getElem? (i := 237) rfl) rfl, List.forall_mem_cons.mpr ⟨in_9 (List.mem_of_getElem? (i := 1) rfl) rfl, List.forall_mem_cons.mpr ⟨in_9 (List.mem_of_getElem? (i := 6) rfl) rfl, List.forall_mem_cons.mpr ⟨in_9 (List.mem_of_getElem? (i := 10) rfl) rfl, fun _ h => absurd h List.not_mem_nil⟩⟩⟩⟩⟩⟩⟩⟩⟩⟩⟩⟩⟩⟩⟩⟩
def tk_18 : List (Nat × Nat × Nat) := [(12, 515, 224), (18, 168, 111), (18, 172, 270), (18, 176, 48), (18, 180, 139), (18, 184, 106), (18, 188, 133), (18, 192, 107), (18, 196, 185), (12, 526, 124)]
theorem p_tk_18 : ∀ q ∈ tk_18, pr_l q := List.forall_mem_cons.mpr ⟨in_9 (List.mem_of_getElem? (i := 14) rfl) rfl, List.forall_mem_cons.mpr ⟨in_9 (List.mem_of_getElem? (i := 19) rfl) rfl, List.forall_mem_cons.mpr ⟨in_9 (List.mem_of_getElem? (i := 23) rfl) rfl, List.forall_mem_cons.mpr ⟨in_9 (List.mem_of_getElem? (i := 27) rfl) rfl, List.forall_mem_cons.mpr ⟨in_9 (List.mem_of_getElem? (i := 31) rfl) rfl, List.forall_mem_cons.mpr ⟨in_9 (List.mem_of_getElem? (i := 35) rfl) rfl, List.forall_mem_cons.mpr ⟨in_9 (List.mem_of_getElem? (i := 39) rfl) rfl, List.forall_mem_cons.mpr ⟨in_9 (List.mem_of_getElem? (i := 43) rfl) rfl, List.forall_mem_cons.mpr ⟨in_9 (List.mem_of_getElem? (i := 47) rfl) rfl, List.forall_mem_cons.mpr ⟨in_9 (List.mem_of_getElem? (i := 51) rfl) rfl, fun _ h => absurd h List.not_mem_nil⟩⟩⟩⟩⟩⟩⟩⟩⟩⟩
def tk : List (Nat × Nat × Nat) := tk_0 ++ (tk_1 ++ (tk_2 ++ (tk_3 ++ (tk_4 ++ (tk_5 ++ (tk_6 ++ (tk_7 ++ (tk_8 ++ (tk_9 ++ (tk_10 ++ (tk_11 ++ (tk_12 ++ (tk_13 ++ (tk_14 ++ (tk_15 ++ (tk_16 ++ (tk_17 ++ (tk_18))))))))))))))))))
theorem p_tk : ∀ q ∈ tk, pr_l q := List.forall_mem_append.mpr ⟨p_tk_0, List.forall_mem_append.mpr ⟨p_tk_1, List.forall_mem_append.mpr ⟨p_tk_2, List.forall_mem_append.mpr ⟨p_tk_3, List.forall_mem_append.mpr ⟨p_tk_4, List.forall_mem_append.mpr ⟨p_tk_5, List.forall_mem_append.mpr ⟨p_tk_6, List.forall_mem_append.mpr ⟨p_tk_7, List.forall_mem_append.mpr ⟨p_tk_8, List.forall_mem_append.mpr ⟨p_tk_9, List.forall_mem_append.mpr ⟨p_tk_10, List.forall_mem_append.mpr ⟨p_tk_11, List.forall_mem_append.mpr ⟨p_tk_12, List.forall_mem_append.mpr ⟨p_tk_13, List.forall_mem_append.mpr ⟨p_tk_14, List.forall_mem_append.mpr ⟨p_tk_15, List.forall_mem_append.mpr ⟨p_tk_16, List.forall_mem_append.mpr ⟨p_tk_17, p_tk_18⟩⟩⟩⟩⟩⟩⟩⟩⟩⟩⟩⟩⟩⟩⟩⟩⟩⟩
/-- a long of the pool -/
def pr_j (q : Nat × Nat × Int64) : Prop := Cond.constantLong (mO q.1) q.2.1 q.2.2 ∈ lw_g
def tj_0 : List (Nat × Nat × Int64) := [(3, 52, 255), (2, 145, 9223372036854775807), (11, 204, (-4611686018427387904)), (11, 242, 9223372036854775807), (11, 244, 2147483647), (9, 33, 465557354085), (9, 35, 30064), (9, 37, 1685026670), (9, 42, 7562612), (9, 62, 1818584692), (9, 64, 491394656372), (9, 66, 418363302244), (9, 68, 109330228604025), (12, 231, 255), (12, 321, 1000000000000), (12, 348, (-1))]
theorem p_tj_0 : ∀ q ∈ tj_0, pr_j q := List.forall_mem_cons.mpr ⟨in_3 (List.mem_of_getElem? (i := 132) rfl) rfl, List.forall_mem_cons.mpr ⟨in_4 (List.mem_of_getElem? (i := 53) rfl) rfl, List.forall_mem_cons.mpr ⟨in_4 (List.mem_of_getElem? (i := 118) rfl) rfl, List.forall_mem_cons.mpr ⟨in_4 (List.mem_of_getElem? (i := 150) rfl) rfl, List.forall_mem_cons.mpr ⟨in_4 (List.mem_of_getElem? (i := 151) rfl) rfl, List.forall_mem_cons.mpr ⟨in_4 (List.mem_of_getElem? (i := 190) rfl) rfl, List.forall_mem_cons.mpr ⟨in_4 (List.mem_of_getElem? (i := 191) rfl) rfl, List.forall_mem_cons.mpr ⟨in_4 (List.mem_of_getElem? (i := 192) rfl) rfl, List.forall_mem_cons.mpr ⟨in_4 (List.mem_of_getElem? (i := 193) rfl) rfl, List.forall_mem_cons.mpr ⟨in_4 (List.mem_of_getElem? (i := 198) rfl) rfl, List.forall_mem_cons.mpr ⟨in_4 (List.mem_of_getElem? (i := 199) rfl) rfl, List.forall_mem_cons.mpr ⟨in_4 (List.mem_of_getElem? (i := 211) rfl) rfl, List.forall_mem_cons.mpr ⟨in_4 (List.mem_of_getElem? (i := 212) rfl) rfl, List.forall_mem_cons.mpr ⟨in_7 (List.mem_of_getElem? (i := 160) rfl) rfl, List.forall_mem_cons.mpr ⟨in_8 (List.mem_of_getElem? (i := 19) rfl) rfl, List.forall_mem_cons.mpr ⟨in_8 (List.mem_of_getElem? (i := 52) rfl) rfl, fun _ h => absurd h List.not_mem_nil⟩⟩⟩⟩⟩⟩⟩⟩⟩⟩⟩⟩⟩⟩⟩⟩
def tj_1 : List (Nat × Nat × Int64) := [(12, 388, (-4611686018427387904)), (12, 393, 2147483647), (12, 430, 30064), (12, 422, 121), (12, 518, 100), (18, 40, 4294967295)]
theorem p_tj_1 : ∀ q ∈ tj_1, pr_j q := List.forall_mem_cons.mpr ⟨in_8 (List.mem_of_getElem? (i := 77) rfl) rfl, List.forall_mem_cons.mpr ⟨in_8 (List.mem_of_getElem? (i := 90) rfl) rfl, List.forall_mem_cons.mpr ⟨in_8 (List.mem_of_getElem? (i := 123) rfl) rfl, List.forall_mem_cons.mpr ⟨in_8 (List.mem_of_getElem? (i := 132) rfl) rfl, List.forall_mem_cons.mpr ⟨in_9 (List.mem_of_getElem? (i := 18) rfl) rfl, List.forall_mem_cons.mpr ⟨in_9 (List.mem_of_getElem? (i := 52) rfl) rfl, fun _ h => absurd h List.not_mem_nil⟩⟩⟩⟩⟩⟩
def tj : List (Nat × Nat × Int64) := tj_0 ++ (tj_1)
theorem p_tj : ∀ q ∈ tj, pr_j q := List.forall_mem_append.mpr ⟨p_tj_0, p_tj_1⟩
/-- an int of the pool -/
def pr_c (q : Nat × Nat × Int32) : Prop := Cond.constant (mO q.1) q.2.1 q.2.2 ∈ lw_g
def tc_0 : List (Nat × Nat × Int32) := [(14, 265, 1431655765), (14, 266, 858993459), (14, 267, 252645135), (12, 395, 2147483647), (12, 505, 100000)]
theorem p_tc_0 : ∀ q ∈ tc_0, pr_c q := List.forall_mem_cons.mpr ⟨in_5 (List.mem_of_getElem? (i := 94) rfl) rfl, List.forall_mem_cons.mpr ⟨in_5 (List.mem_of_getElem? (i := 95) rfl) rfl, List.forall_mem_cons.mpr ⟨in_5 (List.mem_of_getElem? (i := 96) rfl) rfl, List.forall_mem_cons.mpr ⟨in_8 (List.mem_of_getElem? (i := 91) rfl) rfl, List.forall_mem_cons.mpr ⟨in_9 (List.mem_of_getElem? (i := 5) rfl) rfl, fun _ h => absurd h List.not_mem_nil⟩⟩⟩⟩⟩
def tc : List (Nat × Nat × Int32) := tc_0
theorem p_tc : ∀ q ∈ tc, pr_c q := p_tc_0
/-- numbers of what stood before: the static row, the texts, the form -/
def am_bid : Nat := 1000000
def am_fid : Nat := 1000050
def am_sid (k : Nat) : Nat := 1000001 + k
def am_strs : List (Nat × Nat × String) := [(7, 28, "take "), (7, 45, " if "), (1, 16, "said"), (1, 17, "wrong"), (1, 19, "over"), (1, 21, "turns"), (1, 23, "feet"), (1, 25, "day"), (7, 62, "="), (7, 64, "<"), (7, 66, ">"), (7, 51, "&")]
theorem sp_broad : Cond.fieldLink (mO 0) 85 "RunSayer$City" "BROADER" "[I" ∈ lw_g := in_3 (List.mem_of_getElem? (i := 123) rfl) rfl
theorem sp_comp : Cond.fieldLink (mO 13) 38 "java/lang/String" "COMPACT_STRINGS" "Z" ∈ lw_g := in_5 (List.mem_of_getElem? (i := 154) rfl) rfl
theorem sp_form : Cond.fieldLink (mO 13) 1053 "jdk/internal/util/Preconditions" "SIOOBE_FORMATTER" "Ljava/util/function/BiFunction;" ∈ lw_g := in_5 (List.mem_of_getElem? (i := 170) rfl) rfl
theorem sp_val : Cond.fieldLink (mO 13) 9 "java/lang/String" "value" "[B" ∈ lw_g := in_9 (List.mem_of_getElem? (i := 53) rfl) rfl
theorem sp_cod : Cond.fieldLink (mO 13) 15 "java/lang/String" "coder" "B" ∈ lw_g := in_9 (List.mem_of_getElem? (i := 54) rfl) rfl
theorem sp_cp : Cond.methodLink (mO 11) 390 arraycopyName ∈ lw_g := in_6 (List.mem_of_getElem? (i := 47) rfl) rfl
theorem sp_nat : Cond.native arraycopyName ∈ lw_g := in_6 (List.mem_of_getElem? (i := 49) rfl) rfl
theorem sp_sta : Cond.static arraycopyName ∈ lw_g := in_6 (List.mem_of_getElem? (i := 48) rfl) rfl
theorem sp_sys : Cond.initialized "java/lang/System" ∈ lw_g := in_1 (List.mem_of_getElem? (i := 20) rfl) rfl
