def nm_T0 : u_T := fun k => match k with
  | 0 => ("SortedRuns", "pages", "LSortedRuns$Pages;", true)
  | 1 => ("SortedRuns", "space", "LSortedRuns$Space;", true)
  | 2 => ("SortedRuns", "table", "LSortedRuns$Table;", true)
  | 3 => ("SortedRuns", "now", "LSortedRuns$RunList;", true)
  | 4 => ("SortedRuns", "marks", "[LSortedRuns$RunList;", true)
  | 5 => ("SortedRuns", "blend", "LSortedRuns$Blend;", true)
  | 6 => ("SortedRuns", "finder", "LSortedRuns$RunStream;", true)
  | 7 => ("SortedRuns", "found", "LSortedRuns$Fate;", true)
  | 8 => ("SortedRuns", "sheet", "LSortedRuns$Sheet;", true)
  | 9 => ("SortedRuns", "answerKeys", "[J", true)
  | 10 => ("SortedRuns", "answerValues", "[J", true)
  | 11 => ("SortedRuns", "answerCount", "I", false)
  | 12 => ("SortedRuns", "generation", "I", false)
  | 13 => ("SortedRuns", "nextNumber", "I", false)
  | 14 => ("SortedRuns", "state", "I", false)
  | _ => ("SortedRuns", "down", "Z", false)
def nm_Y0 : Nat → FieldType := fun k => match k with
  | 0 => .object "SortedRuns$Pages"
  | 1 => .object "SortedRuns$Space"
  | 2 => .object "SortedRuns$Table"
  | 3 => .object "SortedRuns$RunList"
  | 4 => .array (.object "SortedRuns$RunList")
  | 5 => .object "SortedRuns$Blend"
  | 6 => .object "SortedRuns$RunStream"
  | 7 => .object "SortedRuns$Fate"
  | 8 => .object "SortedRuns$Sheet"
  | 9 => .array .long
  | 10 => .array .long
  | 11 => .int
  | 12 => .int
  | 13 => .int
  | 14 => .int
  | _ => .boolean
def nm_T1 : u_T := fun k => match k with
  | 0 => ("SortedRuns$Blend", "fate", "LSortedRuns$Fate;", true)
  | 1 => ("SortedRuns$Blend", "key", "J", false)
  | 2 => ("SortedRuns$Blend", "ofTable", "LSortedRuns$TableStream;", true)
  | 3 => ("SortedRuns$Blend", "ofRuns", "[LSortedRuns$RunStream;", true)
  | 4 => ("SortedRuns$Blend", "inputs", "[LSortedRuns$Stream;", true)
  | 5 => ("SortedRuns$Blend", "inputCount", "I", false)
  | 6 => ("SortedRuns$Blend", "runCount", "I", false)
  | _ => ("SortedRuns$Blend", "oldest", "Z", false)
def nm_Y1 : Nat → FieldType := fun k => match k with
  | 0 => .object "SortedRuns$Fate"
  | 1 => .long
  | 2 => .object "SortedRuns$TableStream"
  | 3 => .array (.object "SortedRuns$RunStream")
  | 4 => .array (.object "SortedRuns$Stream")
  | 5 => .int
  | 6 => .int
  | _ => .boolean
def nm_T2 : u_T := fun k => match k with
  | 0 => ("SortedRuns$Fate", "kind", "I", false)
  | _ => ("SortedRuns$Fate", "value", "J", false)
def nm_Y2 : Nat → FieldType := fun k => match k with
  | 0 => .int
  | _ => .long
def nm_T3 : u_T := fun k => match k with
  | 0 => ("SortedRuns$Pages", "count", "I", true)
  | 1 => ("SortedRuns$Pages", "octets", "[B", true)
  | 2 => ("SortedRuns$Pages", "right", "[Z", true)
  | 3 => ("SortedRuns$Pages", "reads", "I", false)
  | 4 => ("SortedRuns$Pages", "writes", "I", false)
  | 5 => ("SortedRuns$Pages", "cutIn", "I", false)
  | _ => ("SortedRuns$Pages", "cutBehind", "I", false)
def nm_Y3 : Nat → FieldType := fun k => match k with
  | 0 => .int
  | 1 => .array .byte
  | 2 => .array .boolean
  | 3 => .int
  | 4 => .int
  | 5 => .int
  | _ => .int
def nm_T4 : u_T := fun k => match k with
  | 0 => ("SortedRuns$Run", "number", "I", true)
  | 1 => ("SortedRuns$Run", "level", "I", true)
  | 2 => ("SortedRuns$Run", "filter", "[J", true)
  | 3 => ("SortedRuns$Run", "firstPage", "I", false)
  | 4 => ("SortedRuns$Run", "pageCount", "I", false)
  | 5 => ("SortedRuns$Run", "entries", "I", false)
  | 6 => ("SortedRuns$Run", "firstKey", "J", false)
  | 7 => ("SortedRuns$Run", "lastKey", "J", false)
  | _ => ("SortedRuns$Run", "holders", "I", false)
def nm_Y4 : Nat → FieldType := fun k => match k with
  | 0 => .int
  | 1 => .int
  | 2 => .array .long
  | 3 => .int
  | 4 => .int
  | 5 => .int
  | 6 => .long
  | 7 => .long
  | _ => .int
def nm_T5 : u_T := fun k => match k with
  | 0 => ("SortedRuns$RunList", "runs", "[LSortedRuns$Run;", true)
  | 1 => ("SortedRuns$RunList", "size", "I", false)
  | _ => ("SortedRuns$RunList", "kept", "Z", false)
def nm_Y5 : Nat → FieldType := fun k => match k with
  | 0 => .array (.object "SortedRuns$Run")
  | 1 => .int
  | _ => .boolean
def nm_T6 : u_T := fun k => match k with
  | 0 => ("SortedRuns$Stream", "there", "Z", false)
  | 1 => ("SortedRuns$Stream", "key", "J", false)
  | 2 => ("SortedRuns$Stream", "kind", "I", false)
  | 3 => ("SortedRuns$Stream", "value", "J", false)
  | 4 => ("SortedRuns$RunStream", "pages", "LSortedRuns$Pages;", true)
  | 5 => ("SortedRuns$RunStream", "space", "LSortedRuns$Space;", true)
  | 6 => ("SortedRuns$RunStream", "comingPage", "I", false)
  | 7 => ("SortedRuns$RunStream", "pagesLeft", "I", false)
  | 8 => ("SortedRuns$RunStream", "entriesLeft", "I", false)
  | 9 => ("SortedRuns$RunStream", "place", "I", false)
  | _ => ("SortedRuns$RunStream", "placeEnd", "I", false)
def nm_Y6 : Nat → FieldType := fun k => match k with
  | 0 => .boolean
  | 1 => .long
  | 2 => .int
  | 3 => .long
  | 4 => .object "SortedRuns$Pages"
  | 5 => .object "SortedRuns$Space"
  | 6 => .int
  | 7 => .int
  | 8 => .int
  | 9 => .int
  | _ => .int
def nm_T7 : u_T := fun k => match k with
  | 0 => ("SortedRuns$Sheet", "octets", "[B", true)
  | 1 => ("SortedRuns$Sheet", "used", "I", false)
  | 2 => ("SortedRuns$Sheet", "entries", "I", false)
  | 3 => ("SortedRuns$Sheet", "firstKey", "J", false)
  | _ => ("SortedRuns$Sheet", "lastKey", "J", false)
def nm_Y7 : Nat → FieldType := fun k => match k with
  | 0 => .array .byte
  | 1 => .int
  | 2 => .int
  | 3 => .long
  | _ => .long
def nm_T8 : u_T := fun k => match k with
  | 0 => ("SortedRuns$Space", "count", "I", true)
  | 1 => ("SortedRuns$Space", "holders", "[I", true)
  | 2 => ("SortedRuns$Space", "next", "[I", true)
  | 3 => ("SortedRuns$Space", "firstKeys", "[J", true)
  | _ => ("SortedRuns$Space", "free", "I", false)
def nm_Y8 : Nat → FieldType := fun k => match k with
  | 0 => .int
  | 1 => .array .int
  | 2 => .array .int
  | 3 => .array .long
  | _ => .int
def nm_T9 : u_T := fun k => match k with
  | 0 => ("SortedRuns$Table", "keys", "[J", true)
  | 1 => ("SortedRuns$Table", "kinds", "[I", true)
  | 2 => ("SortedRuns$Table", "values", "[J", true)
  | 3 => ("SortedRuns$Table", "fate", "LSortedRuns$Fate;", true)
  | _ => ("SortedRuns$Table", "size", "I", false)
def nm_Y9 : Nat → FieldType := fun k => match k with
  | 0 => .array .long
  | 1 => .array .int
  | 2 => .array .long
  | 3 => .object "SortedRuns$Fate"
  | _ => .int
def nm_T10 : u_T := fun k => match k with
  | 0 => ("SortedRuns$Stream", "there", "Z", false)
  | 1 => ("SortedRuns$Stream", "key", "J", false)
  | 2 => ("SortedRuns$Stream", "kind", "I", false)
  | 3 => ("SortedRuns$Stream", "value", "J", false)
  | 4 => ("SortedRuns$TableStream", "table", "LSortedRuns$Table;", true)
  | _ => ("SortedRuns$TableStream", "place", "I", false)
def nm_Y10 : Nat → FieldType := fun k => match k with
  | 0 => .boolean
  | 1 => .long
  | 2 => .int
  | 3 => .long
  | 4 => .object "SortedRuns$Table"
  | _ => .int
def nm_T11 : u_T := fun k => match k with
  | 0 => ("SortedRunsModel", "code", "I", false)
  | 1 => ("SortedRunsModel", "pages", "I", false)
  | 2 => ("SortedRunsModel", "octets", "[B", true)
  | 3 => ("SortedRunsModel", "isDown", "Z", false)
  | 4 => ("SortedRunsModel", "generation", "I", false)
  | 5 => ("SortedRunsModel", "nextNumber", "I", false)
  | 6 => ("SortedRunsModel", "readCount", "I", false)
  | 7 => ("SortedRunsModel", "writtenCount", "I", false)
  | 8 => ("SortedRunsModel", "cutIn", "I", false)
  | 9 => ("SortedRunsModel", "cutAt", "I", false)
  | 10 => ("SortedRunsModel", "state", "I", false)
  | 11 => ("SortedRunsModel", "tableCount", "I", false)
  | 12 => ("SortedRunsModel", "tableKey", "[J", true)
  | 13 => ("SortedRunsModel", "tableKind", "[I", true)
  | 14 => ("SortedRunsModel", "tableValue", "[J", true)
  | 15 => ("SortedRunsModel", "users", "[I", true)
  | 16 => ("SortedRunsModel", "number", "[I", true)
  | 17 => ("SortedRunsModel", "level", "[I", true)
  | 18 => ("SortedRunsModel", "pageCount", "[I", true)
  | 19 => ("SortedRunsModel", "entryCount", "[I", true)
  | 20 => ("SortedRunsModel", "pageOf", "[I", true)
  | 21 => ("SortedRunsModel", "firstKey", "[J", true)
  | 22 => ("SortedRunsModel", "lastKey", "[J", true)
  | 23 => ("SortedRunsModel", "filter", "[J", true)
  | 24 => ("SortedRunsModel", "nowCount", "I", false)
  | 25 => ("SortedRunsModel", "nowRun", "[I", true)
  | 26 => ("SortedRunsModel", "isMark", "[Z", true)
  | 27 => ("SortedRunsModel", "markCount", "[I", true)
  | 28 => ("SortedRunsModel", "markRun", "[I", true)
  | 29 => ("SortedRunsModel", "used", "[Z", true)
  | 30 => ("SortedRunsModel", "draft", "[B", true)
  | 31 => ("SortedRunsModel", "count", "I", false)
  | 32 => ("SortedRunsModel", "key", "[J", true)
  | 33 => ("SortedRunsModel", "kind", "[I", true)
  | 34 => ("SortedRunsModel", "value", "[J", true)
  | 35 => ("SortedRunsModel", "seenCount", "I", false)
  | 36 => ("SortedRunsModel", "seenKey", "[J", true)
  | 37 => ("SortedRunsModel", "seenKind", "[I", true)
  | 38 => ("SortedRunsModel", "seenValue", "[J", true)
  | 39 => ("SortedRunsModel", "oldKey", "[J", true)
  | 40 => ("SortedRunsModel", "oldKind", "[I", true)
  | 41 => ("SortedRunsModel", "oldValue", "[J", true)
  | 42 => ("SortedRunsModel", "wholeKey", "[J", true)
  | 43 => ("SortedRunsModel", "wholeKind", "[I", true)
  | 44 => ("SortedRunsModel", "wholeValue", "[J", true)
  | 45 => ("SortedRunsModel", "rangeCount", "I", false)
  | 46 => ("SortedRunsModel", "rangeKey", "[J", true)
  | 47 => ("SortedRunsModel", "rangeValue", "[J", true)
  | 48 => ("SortedRunsModel", "laidKey", "[I", true)
  | 49 => ("SortedRunsModel", "laidBefore", "[I", true)
  | _ => ("SortedRunsModel", "laidEnd", "I", false)
def nm_Y11 : Nat → FieldType := fun k => match k with
  | 0 => .int
  | 1 => .int
  | 2 => .array .byte
  | 3 => .boolean
  | 4 => .int
  | 5 => .int
  | 6 => .int
  | 7 => .int
  | 8 => .int
  | 9 => .int
  | 10 => .int
  | 11 => .int
  | 12 => .array .long
  | 13 => .array .int
  | 14 => .array .long
  | 15 => .array .int
  | 16 => .array .int
  | 17 => .array .int
  | 18 => .array .int
  | 19 => .array .int
  | 20 => .array .int
  | 21 => .array .long
  | 22 => .array .long
  | 23 => .array .long
  | 24 => .int
  | 25 => .array .int
  | 26 => .array .boolean
  | 27 => .array .int
  | 28 => .array .int
  | 29 => .array .boolean
  | 30 => .array .byte
  | 31 => .int
  | 32 => .array .long
  | 33 => .array .int
  | 34 => .array .long
  | 35 => .int
  | 36 => .array .long
  | 37 => .array .int
  | 38 => .array .long
  | 39 => .array .long
  | 40 => .array .int
  | 41 => .array .long
  | 42 => .array .long
  | 43 => .array .int
  | 44 => .array .long
  | 45 => .int
  | 46 => .array .long
  | 47 => .array .long
  | 48 => .array .int
  | 49 => .array .int
  | _ => .int
def nm_cl : List vw_C := [("SortedRuns", nm_T0, 16), ("SortedRuns$Blend", nm_T1, 8), ("SortedRuns$Fate", nm_T2, 2), ("SortedRuns$Pages", nm_T3, 7), ("SortedRuns$Run", nm_T4, 9), ("SortedRuns$RunList", nm_T5, 3), ("SortedRuns$RunStream", nm_T6, 11), ("SortedRuns$Sheet", nm_T7, 5), ("SortedRuns$Space", nm_T8, 5), ("SortedRuns$Table", nm_T9, 5), ("SortedRuns$TableStream", nm_T10, 6), ("SortedRunsModel", nm_T11, 51)]
def nm_ty : Nat → Nat → FieldType := fun c => match c with
  | 0 => nm_Y0
  | 1 => nm_Y1
  | 2 => nm_Y2
  | 3 => nm_Y3
  | 4 => nm_Y4
  | 5 => nm_Y5
  | 6 => nm_Y6
  | 7 => nm_Y7
  | 8 => nm_Y8
  | 9 => nm_Y9
  | 10 => nm_Y10
  | _ => nm_Y11
def nm_el : List String := ["SortedRuns$Run", "SortedRuns$RunList", "SortedRuns$RunStream", "SortedRuns$Stream"]
def nm_nc : List (Nat × Nat) := [(1, 0), (2, 0), (0, 1), (2, 1), (0, 2), (1, 2)]
def so_NS : List Cond := [.methodLinkNest "SortedRuns" 9 ⟨"SortedRuns$Table", "<init>", "()V"⟩ "SortedRuns",
  .methodLinkNest "SortedRuns" 29 ⟨"SortedRuns$Fate", "<init>", "()V"⟩ "SortedRuns",
  .methodLinkNest "SortedRuns" 36 ⟨"SortedRuns$Sheet", "<init>", "()V"⟩ "SortedRuns",
  .methodLinkNest "SortedRuns$Blend" 11 ⟨"SortedRuns$Fate", "<init>", "()V"⟩ "SortedRuns",
  .methodLinkNest "SortedRuns$RunStream" 3 ⟨"SortedRuns$Stream", "<init>", "()V"⟩ "SortedRuns",
  .methodLinkNest "SortedRuns$Table" 24 ⟨"SortedRuns$Fate", "<init>", "()V"⟩ "SortedRuns",
  .methodLinkNest "SortedRuns$TableStream" 3 ⟨"SortedRuns$Stream", "<init>", "()V"⟩ "SortedRuns",
  .declares ⟨"java/lang/RuntimeException", "<init>", "()V"⟩,
  .declares ⟨"java/lang/RuntimeException", "<init>", "(Ljava/lang/String;)V"⟩,
  .declares ⟨"java/lang/Exception", "<init>", "()V"⟩,
  .declares ⟨"java/lang/Exception", "<init>", "(Ljava/lang/String;)V"⟩,
  .declares ⟨"java/lang/Throwable", "<init>", "()V"⟩,
  .declares ⟨"java/lang/Throwable", "<init>", "(Ljava/lang/String;)V"⟩,
  .declares ⟨"SortedRuns$Stream", "step", "()V"⟩,
  .castable "java/lang/IllegalStateException" "java/lang/IllegalStateException",
  .castable "java/lang/IllegalArgumentException" "java/lang/IllegalArgumentException",
  .castable "java/lang/IndexOutOfBoundsException" "java/lang/IndexOutOfBoundsException",
  .castable "SortedRuns$RunStream" "SortedRuns$Stream",
  .castable "SortedRuns$TableStream" "SortedRuns$Stream",
  .arrayOver (.object "SortedRuns$Run"),
  .arrayOver (.object "SortedRuns$RunList"),
  .arrayOver (.object "SortedRuns$RunStream"),
  .arrayOver (.object "SortedRuns$Stream")]
def nm_str : List (String × Nat × String) := [("SortedRuns", 134, "no place in the table"), ("SortedRuns", 146, "down"), ("SortedRuns", 153, "no such kind, or not 1 to 1000"), ("SortedRuns", 335, "no such mark"), ("SortedRuns", 390, "from is above to"), ("SortedRuns", 400, "no such key of the range"), ("SortedRuns", 402, "no such run"), ("SortedRuns", 416, "no such octet"), ("SortedRuns", 421, "its sum is wrong already"), ("SortedRuns", 423, "mask is not 1 to 255"), ("SortedRuns", 433, "not 0 to 1000, or not 0 to 127"), ("SortedRuns", 442, "not down"), ("SortedRuns", 474, "no such thing is told")]
