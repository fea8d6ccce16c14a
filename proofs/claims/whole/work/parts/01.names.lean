/-! names: classes with their fields (own order: the fields from above first), sorts of rows. Written by wip/whole/gen.py. -/
def en_T0 : u_T := fun k => match k with
  | 0 => ("EvenSteps$Circle", "next", "[I", true)
  | 1 => ("EvenSteps$Circle", "counts", "[I", true)
  | 2 => ("EvenSteps$Circle", "wholes", "[I", true)
  | 3 => ("EvenSteps$Circle", "times", "[I", true)
  | 4 => ("EvenSteps$Circle", "sorts", "I", false)
  | 5 => ("EvenSteps$Circle", "order", "[I", true)
  | 6 => ("EvenSteps$Circle", "turns", "[I", true)
  | _ => ("EvenSteps$Circle", "slope", "LEvenSteps$Slope;", false)
def en_t0 : Nat → FieldType := fun k => match k with
  | 0 => .array .int
  | 1 => .array .int
  | 2 => .array .int
  | 3 => .array .int
  | 4 => .int
  | 5 => .array .int
  | 6 => .array .int
  | _ => .object "EvenSteps$Slope"
def en_T1 : u_T := fun k => match k with
  | 0 => ("EvenSteps$Row", "number", "I", true)
  | 1 => ("EvenSteps$Row", "second", "I", false)
  | 2 => ("EvenSteps$Cut", "source", "LEvenSteps$Row;", true)
  | 3 => ("EvenSteps$Cut", "zero", "I", true)
  | 4 => ("EvenSteps$Cut", "zeros", "I", true)
  | 5 => ("EvenSteps$Cut", "one", "I", true)
  | 6 => ("EvenSteps$Cut", "ones", "I", true)
  | 7 => ("EvenSteps$Cut", "steps", "[J", true)
  | 8 => ("EvenSteps$Cut", "known", "I", false)
  | 9 => ("EvenSteps$Cut", "taken", "I", false)
  | _ => ("EvenSteps$Cut", "ended", "Z", false)
def en_t1 : Nat → FieldType := fun k => match k with
  | 0 => .int
  | 1 => .int
  | 2 => .object "EvenSteps$Row"
  | 3 => .int
  | 4 => .int
  | 5 => .int
  | 6 => .int
  | 7 => .array .long
  | 8 => .int
  | 9 => .int
  | _ => .boolean
def en_T2 : u_T := fun k => match k with
  | 0 => ("EvenSteps$Row", "number", "I", true)
  | 1 => ("EvenSteps$Row", "second", "I", false)
  | 2 => ("EvenSteps$Even", "slope", "LEvenSteps$Slope;", true)
  | 3 => ("EvenSteps$Even", "slopeNumber", "I", true)
  | 4 => ("EvenSteps$Even", "u", "I", true)
  | _ => ("EvenSteps$Even", "v", "I", true)
def en_t2 : Nat → FieldType := fun k => match k with
  | 0 => .int
  | 1 => .int
  | 2 => .object "EvenSteps$Slope"
  | 3 => .int
  | 4 => .int
  | _ => .int
def en_T3 : u_T := fun k => match k with
  | 0 => ("EvenSteps$Row", "number", "I", true)
  | 1 => ("EvenSteps$Row", "second", "I", false)
  | 2 => ("EvenSteps$Even", "slope", "LEvenSteps$Slope;", true)
  | 3 => ("EvenSteps$Even", "slopeNumber", "I", true)
  | 4 => ("EvenSteps$Even", "u", "I", true)
  | _ => ("EvenSteps$Even", "v", "I", true)
def en_t3 : Nat → FieldType := fun k => match k with
  | 0 => .int
  | 1 => .int
  | 2 => .object "EvenSteps$Slope"
  | 3 => .int
  | 4 => .int
  | _ => .int
def en_T4 : u_T := fun k => match k with
  | 0 => ("EvenSteps$Row", "number", "I", true)
  | 1 => ("EvenSteps$Row", "second", "I", false)
  | 2 => ("EvenSteps$Even", "slope", "LEvenSteps$Slope;", true)
  | 3 => ("EvenSteps$Even", "slopeNumber", "I", true)
  | 4 => ("EvenSteps$Even", "u", "I", true)
  | _ => ("EvenSteps$Even", "v", "I", true)
def en_t4 : Nat → FieldType := fun k => match k with
  | 0 => .int
  | 1 => .int
  | 2 => .object "EvenSteps$Slope"
  | 3 => .int
  | 4 => .int
  | _ => .int
def en_T5 : u_T := fun k => match k with
  | 0 => ("EvenSteps$Sheet", "numbers", "[I", true)
  | 1 => ("EvenSteps$Sheet", "sort", "I", false)
  | _ => ("EvenSteps$Sheet", "size", "I", false)
def en_t5 : Nat → FieldType := fun k => match k with
  | 0 => .array .int
  | 1 => .int
  | _ => .int
def en_T6 : u_T := fun k => match k with
  | 0 => ("EvenSteps$Slope", "quotients", "[I", true)
  | 1 => ("EvenSteps$Slope", "quotientCount", "I", true)
  | 2 => ("EvenSteps$Slope", "lines", "[I", true)
  | 3 => ("EvenSteps$Slope", "lineCount", "I", true)
  | 4 => ("EvenSteps$Slope", "a", "J", true)
  | 5 => ("EvenSteps$Slope", "b", "J", true)
  | 6 => ("EvenSteps$Slope", "c", "J", true)
  | _ => ("EvenSteps$Slope", "d", "J", true)
def en_t6 : Nat → FieldType := fun k => match k with
  | 0 => .array .int
  | 1 => .int
  | 2 => .array .int
  | 3 => .int
  | 4 => .long
  | 5 => .long
  | 6 => .long
  | _ => .long
def en_T7 : u_T := fun k => match k with
  | 0 => ("EvenSteps$Stretch", "clashLength", "I", false)
  | 1 => ("EvenSteps$Stretch", "clashFirst", "I", false)
  | 2 => ("EvenSteps$Stretch", "clashOther", "I", false)
  | 3 => ("EvenSteps$Stretch", "lowAbove", "I", false)
  | 4 => ("EvenSteps$Stretch", "lowBelow", "I", false)
  | 5 => ("EvenSteps$Stretch", "highAbove", "I", false)
  | 6 => ("EvenSteps$Stretch", "highBelow", "I", false)
  | 7 => ("EvenSteps$Stretch", "sums", "[I", true)
  | 8 => ("EvenSteps$Stretch", "size", "I", false)
  | 9 => ("EvenSteps$Stretch", "least", "I", false)
  | _ => ("EvenSteps$Stretch", "most", "I", false)
def en_t7 : Nat → FieldType := fun k => match k with
  | 0 => .int
  | 1 => .int
  | 2 => .int
  | 3 => .int
  | 4 => .int
  | 5 => .int
  | 6 => .int
  | 7 => .array .int
  | 8 => .int
  | 9 => .int
  | _ => .int
def en_T8 : u_T := fun k => match k with
  | 0 => ("EvenSteps$Row", "number", "I", true)
  | 1 => ("EvenSteps$Row", "second", "I", false)
  | _ => ("EvenSteps$Told", "steps", "[I", true)
def en_t8 : Nat → FieldType := fun k => match k with
  | 0 => .int
  | 1 => .int
  | _ => .array .int
def en_T9 : u_T := fun k => match k with
  | 0 => ("EvenSteps$Trace", "numbers", "[I", true)
  | _ => ("EvenSteps$Trace", "size", "I", false)
def en_t9 : Nat → FieldType := fun k => match k with
  | 0 => .array .int
  | _ => .int
def en_T10 : u_T := fun k => match k with
  | 0 => ("EvenSteps", "slopes", "[LEvenSteps$Slope;", true)
  | 1 => ("EvenSteps", "rows", "[LEvenSteps$Row;", true)
  | 2 => ("EvenSteps", "sheets", "[LEvenSteps$Sheet;", true)
  | 3 => ("EvenSteps", "bodies", "LEvenSteps$Trace;", true)
  | 4 => ("EvenSteps", "stretch", "LEvenSteps$Stretch;", true)
  | 5 => ("EvenSteps", "circle", "LEvenSteps$Circle;", true)
  | 6 => ("EvenSteps", "partSteps", "[I", true)
  | 7 => ("EvenSteps", "partStarts", "[I", true)
  | 8 => ("EvenSteps", "slopeCount", "I", false)
  | 9 => ("EvenSteps", "rowCount", "I", false)
  | _ => ("EvenSteps", "latestStatus", "I", false)
def en_t10 : Nat → FieldType := fun k => match k with
  | 0 => .array (.object "EvenSteps$Slope")
  | 1 => .array (.object "EvenSteps$Row")
  | 2 => .array (.object "EvenSteps$Sheet")
  | 3 => .object "EvenSteps$Trace"
  | 4 => .object "EvenSteps$Stretch"
  | 5 => .object "EvenSteps$Circle"
  | 6 => .array .int
  | 7 => .array .int
  | 8 => .int
  | 9 => .int
  | _ => .int
def en_T11 : u_T := fun k => match k with
  | 0 => ("EvenStepsModel", "slopes", "I", false)
  | 1 => ("EvenStepsModel", "rows", "I", false)
  | 2 => ("EvenStepsModel", "status", "I", false)
  | 3 => ("EvenStepsModel", "sA", "[I", true)
  | 4 => ("EvenStepsModel", "sB", "[I", true)
  | 5 => ("EvenStepsModel", "sC", "[I", true)
  | 6 => ("EvenStepsModel", "sD", "[I", true)
  | 7 => ("EvenStepsModel", "kind", "[I", true)
  | 8 => ("EvenStepsModel", "size", "[I", true)
  | 9 => ("EvenStepsModel", "slopeOf", "[I", true)
  | 10 => ("EvenStepsModel", "steps", "[I", true)
  | 11 => ("EvenStepsModel", "sheetSort", "[I", true)
  | 12 => ("EvenStepsModel", "sheetSize", "[I", true)
  | 13 => ("EvenStepsModel", "sheetCell", "[I", true)
  | 14 => ("EvenStepsModel", "traced", "[I", true)
  | 15 => ("EvenStepsModel", "bodies", "I", false)
  | 16 => ("EvenStepsModel", "quotients", "[J", true)
  | 17 => ("EvenStepsModel", "lines", "[J", true)
  | 18 => ("EvenStepsModel", "quotientN", "I", false)
  | 19 => ("EvenStepsModel", "lineN", "I", false)
  | 20 => ("EvenStepsModel", "nearers", "[I", true)
  | 21 => ("EvenStepsModel", "nearerN", "I", false)
  | 22 => ("EvenStepsModel", "ring", "[I", true)
  | 23 => ("EvenStepsModel", "whole", "[I", true)
  | 24 => ("EvenStepsModel", "gapX", "[I", true)
  | 25 => ("EvenStepsModel", "gapY", "[I", true)
  | 26 => ("EvenStepsModel", "sortX", "[I", true)
  | 27 => ("EvenStepsModel", "sortY", "[I", true)
  | 28 => ("EvenStepsModel", "sortN", "[I", true)
  | 29 => ("EvenStepsModel", "sortLow", "[I", true)
  | 30 => ("EvenStepsModel", "sorts", "I", false)
  | 31 => ("EvenStepsModel", "partner", "[I", true)
  | _ => ("EvenStepsModel", "paired", "Z", false)
def en_t11 : Nat → FieldType := fun k => match k with
  | 0 => .int
  | 1 => .int
  | 2 => .int
  | 3 => .array .int
  | 4 => .array .int
  | 5 => .array .int
  | 6 => .array .int
  | 7 => .array .int
  | 8 => .array .int
  | 9 => .array .int
  | 10 => .array .int
  | 11 => .array .int
  | 12 => .array .int
  | 13 => .array .int
  | 14 => .array .int
  | 15 => .int
  | 16 => .array .long
  | 17 => .array .long
  | 18 => .int
  | 19 => .int
  | 20 => .array .int
  | 21 => .int
  | 22 => .array .int
  | 23 => .array .int
  | 24 => .array .int
  | 25 => .array .int
  | 26 => .array .int
  | 27 => .array .int
  | 28 => .array .int
  | 29 => .array .int
  | 30 => .int
  | 31 => .array .int
  | _ => .boolean
abbrev en_cs : List vw_C := [("EvenSteps$Circle", en_T0, 8), ("EvenSteps$Cut", en_T1, 11), ("EvenSteps$Even", en_T2, 6), ("EvenSteps$Points", en_T3, 6), ("EvenSteps$Ring", en_T4, 6), ("EvenSteps$Sheet", en_T5, 3), ("EvenSteps$Slope", en_T6, 8), ("EvenSteps$Stretch", en_T7, 11), ("EvenSteps$Told", en_T8, 3), ("EvenSteps$Trace", en_T9, 2), ("EvenSteps", en_T10, 11), ("EvenStepsModel", en_T11, 33)]
/-- the fields of a new object, by the number of its class -/
def en_df : Nat → List Value
  | 0 => [.null, .null, .null, .null, .int 0, .null, .null, .null]
  | 1 => [.int 0, .int 0, .null, .int 0, .int 0, .int 0, .int 0, .null, .int 0, .int 0, .int 0]
  | 2 => [.int 0, .int 0, .null, .int 0, .int 0, .int 0]
  | 3 => [.int 0, .int 0, .null, .int 0, .int 0, .int 0]
  | 4 => [.int 0, .int 0, .null, .int 0, .int 0, .int 0]
  | 5 => [.null, .int 0, .int 0]
  | 6 => [.null, .int 0, .null, .int 0, .long 0, .long 0, .long 0, .long 0]
  | 7 => [.int 0, .int 0, .int 0, .int 0, .int 0, .int 0, .int 0, .null, .int 0, .int 0, .int 0]
  | 8 => [.int 0, .int 0, .null]
  | 9 => [.null, .int 0]
  | 10 => [.null, .null, .null, .null, .null, .null, .null, .null, .int 0, .int 0, .int 0]
  | 11 => [.int 0, .int 0, .int 0, .null, .null, .null, .null, .null, .null, .null, .null, .null, .null, .null, .null, .int 0, .null, .null, .int 0, .int 0, .null, .int 0, .null, .null, .null, .null, .null, .null, .null, .null, .int 0, .null, .int 0]
  | _ => []
/-- whose objects a row of references takes, by its sort -/
def en_as : Nat → List (Nat × Nat)
  | 0 => [(6, 1)]
  | 1 => [(1, 0), (2, 0), (3, 0), (4, 0), (8, 0)]
  | 2 => [(5, 1)]
  | _ => []
/-- words that move, but not as words of a table -/
def en_nwl : List Cond := [.methodLinkNest "EvenSteps$Slope" 22 ⟨"EvenSteps", "commonOf", "(JJ)J"⟩ "EvenSteps", .methodLinkNest "EvenSteps$Slope" 70 ⟨"EvenSteps", "rootOf", "(J)J"⟩ "EvenSteps", .methodLinkNest "EvenSteps$Slope" 75 ⟨"EvenSteps", "signOf", "(JJJ)I"⟩ "EvenSteps", .declares ⟨"EvenSteps$Even", "doGrow", "(ILEvenSteps$Trace;)I"⟩, .declares ⟨"EvenSteps$Row", "doGap", "(ILEvenSteps$Trace;)I"⟩, .declares ⟨"EvenSteps$Row", "doTell", "(ILEvenSteps$Trace;)I"⟩, .declares ⟨"EvenSteps$Row", "kindNumber", "()I"⟩, .declares ⟨"EvenSteps$Row", "stepAt", "(I)I"⟩, .declares ⟨"EvenSteps$Row", "sumOf", "(I)I"⟩, .castable "EvenSteps$Cut" "EvenSteps$Row", .castable "EvenSteps$Even" "EvenSteps$Row", .castable "EvenSteps$Points" "EvenSteps$Even", .castable "EvenSteps$Points" "EvenSteps$Row", .castable "EvenSteps$Ring" "EvenSteps$Even", .castable "EvenSteps$Ring" "EvenSteps$Row", .castable "EvenSteps$Told" "EvenSteps$Row"]
def en_aol : List String := ["EvenSteps$Slope", "EvenSteps$Row", "EvenSteps$Sheet"]
def en_ncl : List (String × String) := [("EvenSteps$Cut", "EvenSteps$Even"), ("EvenSteps$Cut", "EvenSteps$Points"), ("EvenSteps$Cut", "EvenSteps$Ring"), ("EvenSteps$Even", "EvenSteps$Cut"), ("EvenSteps$Even", "EvenSteps$Points"), ("EvenSteps$Even", "EvenSteps$Ring"), ("EvenSteps$Points", "EvenSteps$Cut"), ("EvenSteps$Points", "EvenSteps$Ring"), ("EvenSteps$Ring", "EvenSteps$Cut"), ("EvenSteps$Ring", "EvenSteps$Points"), ("EvenSteps$Told", "EvenSteps$Cut"), ("EvenSteps$Told", "EvenSteps$Even"), ("EvenSteps$Told", "EvenSteps$Points"), ("EvenSteps$Told", "EvenSteps$Ring")]
/-- the sorts of rows: what they hold -/
def en_tn : Nat → FieldType
  | 0 => .int
  | 1 => .long
  | 2 => .object "EvenSteps$Slope"
  | 3 => .object "EvenSteps$Row"
  | _ => .object "EvenSteps$Sheet"
def en_el : Nat → String
  | 0 => "EvenSteps$Slope"
  | 1 => "EvenSteps$Row"
  | _ => "EvenSteps$Sheet"
