/-! the classes whose objects the world holds: law 0, life 1, mark 2, reader 3, smoke 4, street 5, tape 6, SmokeWeds 7, model 8; then arrays: byte 9, int 10, long 11, boolean 12, Mark 13 -/
def RX0 : String := "SmokeWeds$Law"
def TX0 : u_T := fun k => match k with
  | 0 => ("SmokeWeds$Law", "steps", "[I", true)
  | 1 => ("SmokeWeds$Law", "stack", "[I", true)
  | _ => ("SmokeWeds$Law", "size", "I", false)
def tyX0 : Nat → FieldType := fun k => match k with
  | 0 => .array .int
  | 1 => .array .int
  | _ => .int
theorem nmX0 : ∀ a, a < 3 → ∀ b, b < 3 → a ≠ b → (TX0 a).2.1 ≠ (TX0 b).2.1 := by decide +kernel
theorem tyX0_ok : ∀ k, k < 3 → parseFieldDescriptor (TX0 k).2.2.1 = some (tyX0 k) := by decide +kernel
def RX1 : String := "SmokeWeds$Life"
def TX1 : u_T := fun k => match k with
  | 0 => ("SmokeWeds$Life", "wedTo", "[I", true)
  | 1 => ("SmokeWeds$Life", "hoursWed", "[I", true)
  | 2 => ("SmokeWeds$Life", "children", "[I", true)
  | 3 => ("SmokeWeds$Life", "paid", "[I", true)
  | 4 => ("SmokeWeds$Life", "black", "[I", true)
  | 5 => ("SmokeWeds$Life", "sightOf", "[I", true)
  | 6 => ("SmokeWeds$Life", "sightWith", "[I", true)
  | 7 => ("SmokeWeds$Life", "sightMet", "[I", true)
  | 8 => ("SmokeWeds$Life", "hour", "I", false)
  | 9 => ("SmokeWeds$Life", "ahead", "I", false)
  | 10 => ("SmokeWeds$Life", "lit", "I", false)
  | 11 => ("SmokeWeds$Life", "closed", "I", false)
  | _ => ("SmokeWeds$Life", "sights", "I", false)
def tyX1 : Nat → FieldType := fun k => match k with
  | 0 => .array .int
  | 1 => .array .int
  | 2 => .array .int
  | 3 => .array .int
  | 4 => .array .int
  | 5 => .array .int
  | 6 => .array .int
  | 7 => .array .int
  | 8 => .int
  | 9 => .int
  | 10 => .int
  | 11 => .int
  | _ => .int
theorem nmX1 : ∀ a, a < 13 → ∀ b, b < 13 → a ≠ b → (TX1 a).2.1 ≠ (TX1 b).2.1 := by decide +kernel
theorem tyX1_ok : ∀ k, k < 13 → parseFieldDescriptor (TX1 k).2.2.1 = some (tyX1 k) := by decide +kernel
def RX2 : String := "SmokeWeds$Mark"
def TX2 : u_T := fun k => match k with
  | 0 => ("SmokeWeds$Mark", "street", "LSmokeWeds$Street;", true)
  | _ => ("SmokeWeds$Mark", "life", "LSmokeWeds$Life;", true)
def tyX2 : Nat → FieldType := fun k => match k with
  | 0 => .object "SmokeWeds$Street"
  | _ => .object "SmokeWeds$Life"
theorem nmX2 : ∀ a, a < 2 → ∀ b, b < 2 → a ≠ b → (TX2 a).2.1 ≠ (TX2 b).2.1 := by decide +kernel
theorem tyX2_ok : ∀ k, k < 2 → parseFieldDescriptor (TX2 k).2.2.1 = some (tyX2 k) := by decide +kernel
def RX3 : String := "SmokeWeds$Reader"
def TX3 : u_T := fun k => match k with
  | 0 => ("SmokeWeds$Reader", "tape", "LSmokeWeds$Tape;", true)
  | 1 => ("SmokeWeds$Reader", "street", "LSmokeWeds$Street;", false)
  | 2 => ("SmokeWeds$Reader", "law", "LSmokeWeds$Law;", false)
  | 3 => ("SmokeWeds$Reader", "at", "I", false)
  | 4 => ("SmokeWeds$Reader", "token", "I", false)
  | 5 => ("SmokeWeds$Reader", "place", "I", false)
  | 6 => ("SmokeWeds$Reader", "number", "I", false)
  | 7 => ("SmokeWeds$Reader", "letters", "J", false)
  | 8 => ("SmokeWeds$Reader", "word", "LSmokeWeds$Word;", false)
  | 9 => ("SmokeWeds$Reader", "fault", "I", false)
  | 10 => ("SmokeWeds$Reader", "fieldTold", "Z", false)
  | 11 => ("SmokeWeds$Reader", "windTold", "Z", false)
  | 12 => ("SmokeWeds$Reader", "plumeTold", "Z", false)
  | 13 => ("SmokeWeds$Reader", "coldTold", "Z", false)
  | _ => ("SmokeWeds$Reader", "turnsTold", "Z", false)
def tyX3 : Nat → FieldType := fun k => match k with
  | 0 => .object "SmokeWeds$Tape"
  | 1 => .object "SmokeWeds$Street"
  | 2 => .object "SmokeWeds$Law"
  | 3 => .int
  | 4 => .int
  | 5 => .int
  | 6 => .int
  | 7 => .long
  | 8 => .object "SmokeWeds$Word"
  | 9 => .int
  | 10 => .boolean
  | 11 => .boolean
  | 12 => .boolean
  | 13 => .boolean
  | _ => .boolean
theorem nmX3 : ∀ a, a < 15 → ∀ b, b < 15 → a ≠ b → (TX3 a).2.1 ≠ (TX3 b).2.1 := by decide +kernel
theorem tyX3_ok : ∀ k, k < 15 → parseFieldDescriptor (TX3 k).2.2.1 = some (tyX3 k) := by decide +kernel
def RX4 : String := "SmokeWeds$Smoke"
def TX4 : u_T := fun k => match k with
  | 0 => ("SmokeWeds$Smoke", "met", "[I", true)
  | 1 => ("SmokeWeds$Smoke", "laid", "[I", true)
  | 2 => ("SmokeWeds$Smoke", "cells", "[I", true)
  | _ => ("SmokeWeds$Smoke", "whose", "[I", true)
def tyX4 : Nat → FieldType := fun k => match k with
  | 0 => .array .int
  | 1 => .array .int
  | 2 => .array .int
  | _ => .array .int
theorem nmX4 : ∀ a, a < 4 → ∀ b, b < 4 → a ≠ b → (TX4 a).2.1 ≠ (TX4 b).2.1 := by decide +kernel
theorem tyX4_ok : ∀ k, k < 4 → parseFieldDescriptor (TX4 k).2.2.1 = some (tyX4 k) := by decide +kernel
def RX5 : String := "SmokeWeds$Street"
def TX5 : u_T := fun k => match k with
  | 0 => ("SmokeWeds$Street", "column", "[I", true)
  | 1 => ("SmokeWeds$Street", "row", "[I", true)
  | 2 => ("SmokeWeds$Street", "high", "[I", true)
  | 3 => ("SmokeWeds$Street", "kind", "[I", true)
  | 4 => ("SmokeWeds$Street", "name", "[J", true)
  | 5 => ("SmokeWeds$Street", "windLaw", "LSmokeWeds$Law;", true)
  | 6 => ("SmokeWeds$Street", "plumeLaw", "LSmokeWeds$Law;", true)
  | 7 => ("SmokeWeds$Street", "columns", "I", false)
  | 8 => ("SmokeWeds$Street", "rows", "I", false)
  | 9 => ("SmokeWeds$Street", "cold", "I", false)
  | 10 => ("SmokeWeds$Street", "turns", "I", false)
  | _ => ("SmokeWeds$Street", "houses", "I", false)
def tyX5 : Nat → FieldType := fun k => match k with
  | 0 => .array .int
  | 1 => .array .int
  | 2 => .array .int
  | 3 => .array .int
  | 4 => .array .long
  | 5 => .object "SmokeWeds$Law"
  | 6 => .object "SmokeWeds$Law"
  | 7 => .int
  | 8 => .int
  | 9 => .int
  | 10 => .int
  | _ => .int
theorem nmX5 : ∀ a, a < 12 → ∀ b, b < 12 → a ≠ b → (TX5 a).2.1 ≠ (TX5 b).2.1 := by decide +kernel
theorem tyX5_ok : ∀ k, k < 12 → parseFieldDescriptor (TX5 k).2.2.1 = some (tyX5 k) := by decide +kernel
def RX6 : String := "SmokeWeds$Tape"
def TX6 : u_T := fun k => match k with
  | 0 => ("SmokeWeds$Tape", "signs", "[B", true)
  | _ => ("SmokeWeds$Tape", "length", "I", false)
def tyX6 : Nat → FieldType := fun k => match k with
  | 0 => .array .byte
  | _ => .int
theorem nmX6 : ∀ a, a < 2 → ∀ b, b < 2 → a ≠ b → (TX6 a).2.1 ≠ (TX6 b).2.1 := by decide +kernel
theorem tyX6_ok : ∀ k, k < 2 → parseFieldDescriptor (TX6 k).2.2.1 = some (tyX6 k) := by decide +kernel
def RX8 : String := "SmokeWeds"
def TX8 : u_T := fun k => match k with
  | 0 => ("SmokeWeds", "tape", "LSmokeWeds$Tape;", true)
  | 1 => ("SmokeWeds", "reader", "LSmokeWeds$Reader;", true)
  | 2 => ("SmokeWeds", "air", "LSmokeWeds$Smoke;", true)
  | 3 => ("SmokeWeds", "life", "LSmokeWeds$Life;", true)
  | 4 => ("SmokeWeds", "marks", "[LSmokeWeds$Mark;", true)
  | 5 => ("SmokeWeds", "wedInRun", "[I", true)
  | _ => ("SmokeWeds", "here", "LSmokeWeds$Street;", false)
def tyX8 : Nat → FieldType := fun k => match k with
  | 0 => .object "SmokeWeds$Tape"
  | 1 => .object "SmokeWeds$Reader"
  | 2 => .object "SmokeWeds$Smoke"
  | 3 => .object "SmokeWeds$Life"
  | 4 => .array (.object "SmokeWeds$Mark")
  | 5 => .array .int
  | _ => .object "SmokeWeds$Street"
theorem nmX8 : ∀ a, a < 7 → ∀ b, b < 7 → a ≠ b → (TX8 a).2.1 ≠ (TX8 b).2.1 := by decide +kernel
theorem tyX8_ok : ∀ k, k < 7 → parseFieldDescriptor (TX8 k).2.2.1 = some (tyX8 k) := by decide +kernel
def RX9 : String := "SmokeWedsModel"
def TX9 : u_T := fun k => match k with
  | 0 => ("SmokeWedsModel", "thrown", "I", false)
  | 1 => ("SmokeWedsModel", "taped", "I", false)
  | 2 => ("SmokeWedsModel", "tape", "[I", true)
  | 3 => ("SmokeWedsModel", "size", "I", false)
  | 4 => ("SmokeWedsModel", "place", "I", false)
  | 5 => ("SmokeWedsModel", "begin", "I", false)
  | 6 => ("SmokeWedsModel", "token", "I", false)
  | 7 => ("SmokeWedsModel", "word", "J", false)
  | 8 => ("SmokeWedsModel", "told", "I", false)
  | 9 => ("SmokeWedsModel", "wrong", "I", false)
  | 10 => ("SmokeWedsModel", "street", "[I", true)
  | 11 => ("SmokeWedsModel", "names", "[J", true)
  | 12 => ("SmokeWedsModel", "columnOf", "[I", true)
  | 13 => ("SmokeWedsModel", "rowOf", "[I", true)
  | 14 => ("SmokeWedsModel", "high", "[I", true)
  | 15 => ("SmokeWedsModel", "kind", "[I", true)
  | 16 => ("SmokeWedsModel", "lineFrom", "[I", true)
  | 17 => ("SmokeWedsModel", "lineTo", "[I", true)
  | 18 => ("SmokeWedsModel", "codes", "[I", true)
  | 19 => ("SmokeWedsModel", "code", "I", false)
  | 20 => ("SmokeWedsModel", "isTold", "I", false)
  | 21 => ("SmokeWedsModel", "isPlume", "Z", false)
  | 22 => ("SmokeWedsModel", "opened", "[I", true)
  | 23 => ("SmokeWedsModel", "compared", "[Z", true)
  | 24 => ("SmokeWedsModel", "kept", "[I", true)
  | 25 => ("SmokeWedsModel", "keptBy", "[I", true)
  | 26 => ("SmokeWedsModel", "ahead", "[I", true)
  | 27 => ("SmokeWedsModel", "against", "[I", true)
  | 28 => ("SmokeWedsModel", "sum", "[I", true)
  | 29 => ("SmokeWedsModel", "sumBy", "[I", true)
  | 30 => ("SmokeWedsModel", "term", "[I", true)
  | 31 => ("SmokeWedsModel", "termBy", "[I", true)
  | 32 => ("SmokeWedsModel", "byNot", "[I", true)
  | 33 => ("SmokeWedsModel", "valueOf", "[I", true)
  | 34 => ("SmokeWedsModel", "given", "I", false)
  | 35 => ("SmokeWedsModel", "s", "[I", true)
  | 36 => ("SmokeWedsModel", "marked", "[I", true)
  | 37 => ("SmokeWedsModel", "aside", "[I", true)
  | 38 => ("SmokeWedsModel", "smoked", "[I", true)
  | 39 => ("SmokeWedsModel", "met", "[I", true)
  | 40 => ("SmokeWedsModel", "weddings", "I", false)
  | 41 => ("SmokeWedsModel", "g", "J", false)
  | _ => ("SmokeWedsModel", "isLaid", "[Z", true)
def tyX9 : Nat → FieldType := fun k => match k with
  | 0 => .int
  | 1 => .int
  | 2 => .array .int
  | 3 => .int
  | 4 => .int
  | 5 => .int
  | 6 => .int
  | 7 => .long
  | 8 => .int
  | 9 => .int
  | 10 => .array .int
  | 11 => .array .long
  | 12 => .array .int
  | 13 => .array .int
  | 14 => .array .int
  | 15 => .array .int
  | 16 => .array .int
  | 17 => .array .int
  | 18 => .array .int
  | 19 => .int
  | 20 => .int
  | 21 => .boolean
  | 22 => .array .int
  | 23 => .array .boolean
  | 24 => .array .int
  | 25 => .array .int
  | 26 => .array .int
  | 27 => .array .int
  | 28 => .array .int
  | 29 => .array .int
  | 30 => .array .int
  | 31 => .array .int
  | 32 => .array .int
  | 33 => .array .int
  | 34 => .int
  | 35 => .array .int
  | 36 => .array .int
  | 37 => .array .int
  | 38 => .array .int
  | 39 => .array .int
  | 40 => .int
  | 41 => .long
  | _ => .array .boolean
theorem nmX9 : ∀ a, a < 43 → ∀ b, b < 43 → a ≠ b → (TX9 a).2.1 ≠ (TX9 b).2.1 := by decide +kernel
theorem tyX9_ok : ∀ k, k < 43 → parseFieldDescriptor (TX9 k).2.2.1 = some (tyX9 k) := by decide +kernel
def zT : List Cond := lw_tbl.filter goodWord
theorem zT_good : GoodIn zT zT := fun w h => ⟨h, good_of_word (List.mem_filter.mp h).2⟩
theorem zT_sub {s : State} {args : Array Value} (h : ∀ w ∈ lw_tbl, w.before args s = true) : ∀ w ∈ zT, w.before args s = true := fun w hw => h w (List.mem_filter.mp hw).1
abbrev zcl : List vw_C := [(RX0, TX0, 3), (RX1, TX1, 13), (RX2, TX2, 2), (RX3, TX3, 15), (RX4, TX4, 4), (RX5, TX5, 12), (RX6, TX6, 2), (RX8, TX8, 7), (RX9, TX9, 43)]
def zty : Nat → Nat → FieldType := fun c => match c with
  | 0 => tyX0
  | 1 => tyX1
  | 2 => tyX2
  | 3 => tyX3
  | 4 => tyX4
  | 5 => tyX5
  | 6 => tyX6
  | 7 => tyX8
  | _ => tyX9
theorem zin0 : ∀ w ∈ u_ws RX0 TX0 3, w ∈ zT := by decide +kernel
theorem zin1 : ∀ w ∈ u_ws RX1 TX1 13, w ∈ zT := by decide +kernel
theorem zin2 : ∀ w ∈ u_ws RX2 TX2 2, w ∈ zT := by decide +kernel
theorem zin3 : ∀ w ∈ u_ws RX3 TX3 15, w ∈ zT := by decide +kernel
theorem zin4 : ∀ w ∈ u_ws RX4 TX4 4, w ∈ zT := by decide +kernel
theorem zin5 : ∀ w ∈ u_ws RX5 TX5 12, w ∈ zT := by decide +kernel
theorem zin6 : ∀ w ∈ u_ws RX6 TX6 2, w ∈ zT := by decide +kernel
theorem zin7 : ∀ w ∈ u_ws RX8 TX8 7, w ∈ zT := by decide +kernel
theorem zin8 : ∀ w ∈ u_ws RX9 TX9 43, w ∈ zT := by decide +kernel
theorem zcls {c : Nat} {q : vw_C} (h : zcl[c]? = some q) : (∀ w ∈ u_ws q.1 q.2.1 q.2.2, w ∈ zT) ∧ (∀ k, k < q.2.2 → parseFieldDescriptor (q.2.1 k).2.2.1 = some (zty c k)) ∧ ∀ a, a < q.2.2 → ∀ b, b < q.2.2 → a ≠ b → (q.2.1 a).2.1 ≠ (q.2.1 b).2.1 := by
  match c, h with
  | 0, h => cases h; exact ⟨zin0, tyX0_ok, nmX0⟩
  | 1, h => cases h; exact ⟨zin1, tyX1_ok, nmX1⟩
  | 2, h => cases h; exact ⟨zin2, tyX2_ok, nmX2⟩
  | 3, h => cases h; exact ⟨zin3, tyX3_ok, nmX3⟩
  | 4, h => cases h; exact ⟨zin4, tyX4_ok, nmX4⟩
  | 5, h => cases h; exact ⟨zin5, tyX5_ok, nmX5⟩
  | 6, h => cases h; exact ⟨zin6, tyX6_ok, nmX6⟩
  | 7, h => cases h; exact ⟨zin7, tyX8_ok, nmX8⟩
  | 8, h => cases h; exact ⟨zin8, tyX9_ok, nmX9⟩
  | c + 9, h => simp [zcl] at h

