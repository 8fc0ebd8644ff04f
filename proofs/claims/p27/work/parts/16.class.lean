/-! the classes, the constants, the statics of p27's class (written by wip/p27/emit.py) -/
def xF0 : u_T := fun k => match k with
  | 0 => ("java/lang/String", "value", "[B", true)
  | 1 => ("java/lang/String", "coder", "B", true)
  | 2 => ("java/lang/String", "hash", "I", false)
  | _ => ("java/lang/String", "hashIsZero", "Z", false)
def xF1 : u_T := fun k => match k with
  | 0 => ("java/lang/AbstractStringBuilder", "value", "[B", false)
  | 1 => ("java/lang/AbstractStringBuilder", "coder", "B", false)
  | 2 => ("java/lang/AbstractStringBuilder", "maybeLatin1", "Z", false)
  | _ => ("java/lang/AbstractStringBuilder", "count", "I", false)
def xF2 : u_T := fun k => match k with
  | 0 => ("java/util/AbstractList", "modCount", "I", false)
  | 1 => ("java/util/ArrayList", "elementData", "[Ljava/lang/Object;", false)
  | _ => ("java/util/ArrayList", "size", "I", false)
def xF3 : u_T := fun k => match k with
  | 0 => ("Levelhouse$Change", "draft", "LLevelhouse$Shelf;", true)
  | 1 => ("Levelhouse$Change", "touched", "Ljava/util/ArrayList;", true)
  | 2 => ("Levelhouse$Change", "made", "Ljava/util/ArrayList;", true)
  | 3 => ("Levelhouse$Change", "sight", "LLevelhouse$Sight;", true)
  | 4 => ("Levelhouse$Change", "label", "I", false)
  | 5 => ("Levelhouse$Change", "altered", "I", false)
  | _ => ("Levelhouse$Change", "isGiven", "Z", false)
def xF4 : u_T := fun k => match k with
  | 0 => ("Levelhouse$Entry", "table", "LLevelhouse$Table;", true)
  | 1 => ("Levelhouse$Entry", "key", "I", true)
  | 2 => ("Levelhouse$Entry", "label", "I", true)
  | 3 => ("Levelhouse$Entry", "isVeil", "Z", true)
  | _ => ("Levelhouse$Entry", "cells", "[I", true)
def xF5 : u_T := fun k => match k with
  | 0 => ("Levelhouse$Formula", "ops", "[LLevelhouse$Word;", true)
  | 1 => ("Levelhouse$Formula", "args", "[I", true)
  | 2 => ("Levelhouse$Formula", "places", "[I", true)
  | 3 => ("Levelhouse$Formula", "stack", "[I", true)
  | 4 => ("Levelhouse$Formula", "waiting", "[LLevelhouse$Word;", true)
  | 5 => ("Levelhouse$Formula", "waitingSize", "I", false)
  | _ => ("Levelhouse$Formula", "size", "I", false)
def xF6 : u_T := fun k => match k with
  | 0 => ("Levelhouse$Meaning", "statement", "LLevelhouse$Statement;", false)
  | 1 => ("Levelhouse$Meaning", "standing", "Ljava/util/ArrayList;", false)
  | 2 => ("Levelhouse$Meaning", "label", "I", false)
  | 3 => ("Levelhouse$Meaning", "wrong", "I", false)
  | 4 => ("Levelhouse$Meaning", "one", "LLevelhouse$Table;", false)
  | 5 => ("Levelhouse$Meaning", "two", "LLevelhouse$Table;", false)
  | 6 => ("Levelhouse$Meaning", "isGrouped", "Z", false)
  | 7 => ("Levelhouse$Meaning", "firstColumn", "I", false)
  | 8 => ("Levelhouse$Meaning", "secondColumn", "I", false)
  | _ => ("Levelhouse$Meaning", "columns", "[I", true)
def xF7 : u_T := fun k => match k with
  | 0 => ("Levelhouse$Query", "statement", "LLevelhouse$Statement;", false)
  | 1 => ("Levelhouse$Query", "meaning", "LLevelhouse$Meaning;", false)
  | 2 => ("Levelhouse$Query", "firsts", "Ljava/util/ArrayList;", true)
  | 3 => ("Levelhouse$Query", "seconds", "Ljava/util/ArrayList;", true)
  | 4 => ("Levelhouse$Query", "picked", "[I", false)
  | 5 => ("Levelhouse$Query", "pickedSize", "I", false)
  | 6 => ("Levelhouse$Query", "line", "[I", true)
  | 7 => ("Levelhouse$Query", "keep", "I", false)
  | 8 => ("Levelhouse$Query", "offered", "I", false)
  | 9 => ("Levelhouse$Query", "sortItem", "I", false)
  | 10 => ("Levelhouse$Query", "isDown", "Z", false)
  | 11 => ("Levelhouse$Query", "lines", "[I", false)
  | 12 => ("Levelhouse$Query", "lineCount", "I", false)
  | _ => ("Levelhouse$Query", "width", "I", false)
def xF8 : u_T := fun k => match k with
  | 0 => ("Levelhouse$Reader", "kinds", "[LLevelhouse$Word;", true)
  | 1 => ("Levelhouse$Reader", "values", "[I", true)
  | 2 => ("Levelhouse$Reader", "places", "[I", true)
  | 3 => ("Levelhouse$Reader", "size", "I", false)
  | 4 => ("Levelhouse$Reader", "length", "I", false)
  | 5 => ("Levelhouse$Reader", "at", "I", false)
  | _ => ("Levelhouse$Reader", "fault", "I", false)
def xF9 : u_T := fun k => match k with
  | 0 => ("Levelhouse$Session", "label", "I", false)
  | 1 => ("Levelhouse$Session", "text", "[C", true)
  | 2 => ("Levelhouse$Session", "length", "I", false)
  | 3 => ("Levelhouse$Session", "answer", "[I", false)
  | 4 => ("Levelhouse$Session", "answerRows", "I", false)
  | 5 => ("Levelhouse$Session", "answerColumns", "I", false)
  | 6 => ("Levelhouse$Session", "reason", "C", false)
  | 7 => ("Levelhouse$Session", "isBusy", "Z", false)
  | 8 => ("Levelhouse$Session", "shelf", "LLevelhouse$Shelf;", true)
  | 9 => ("Levelhouse$Session", "changed", "Ljava/util/ArrayList;", true)
  | _ => ("Levelhouse$Session", "since", "I", false)
def xF10 : u_T := fun k => match k with
  | _ => ("Levelhouse$Shelf", "list", "Ljava/util/ArrayList;", true)
def xF11 : u_T := fun k => match k with
  | 0 => ("Levelhouse$Sight", "list", "Ljava/util/ArrayList;", true)
  | _ => ("Levelhouse$Sight", "label", "I", false)
def xF12 : u_T := fun k => match k with
  | 0 => ("Levelhouse$Statement", "reader", "LLevelhouse$Reader;", true)
  | 1 => ("Levelhouse$Statement", "code", "LLevelhouse$Formula;", true)
  | 2 => ("Levelhouse$Statement", "verb", "LLevelhouse$Word;", false)
  | 3 => ("Levelhouse$Statement", "isEach", "Z", false)
  | 4 => ("Levelhouse$Statement", "allAt", "I", false)
  | 5 => ("Levelhouse$Statement", "tableAt", "I", false)
  | 6 => ("Levelhouse$Statement", "joinAt", "I", false)
  | 7 => ("Levelhouse$Statement", "firstAt", "I", false)
  | 8 => ("Levelhouse$Statement", "secondAt", "I", false)
  | 9 => ("Levelhouse$Statement", "orderAt", "I", false)
  | 10 => ("Levelhouse$Statement", "topAt", "I", false)
  | 11 => ("Levelhouse$Statement", "closeAt", "I", false)
  | 12 => ("Levelhouse$Statement", "ifFrom", "I", false)
  | 13 => ("Levelhouse$Statement", "ifTo", "I", false)
  | 14 => ("Levelhouse$Statement", "items", "I", false)
  | 15 => ("Levelhouse$Statement", "columns", "I", false)
  | 16 => ("Levelhouse$Statement", "itemKinds", "[LLevelhouse$Word;", true)
  | 17 => ("Levelhouse$Statement", "itemAts", "[I", true)
  | 18 => ("Levelhouse$Statement", "itemFroms", "[I", true)
  | _ => ("Levelhouse$Statement", "columnAts", "[I", true)
def xF13 : u_T := fun k => match k with
  | 0 => ("Levelhouse$Table", "serial", "I", true)
  | 1 => ("Levelhouse$Table", "name", "I", true)
  | 2 => ("Levelhouse$Table", "label", "I", true)
  | 3 => ("Levelhouse$Table", "columns", "[I", true)
  | 4 => ("Levelhouse$Table", "kinds", "[LLevelhouse$Word;", true)
  | 5 => ("Levelhouse$Table", "refs", "[LLevelhouse$Table;", true)
  | 6 => ("Levelhouse$Table", "check", "LLevelhouse$Formula;", true)
  | 7 => ("Levelhouse$Table", "given", "[I", true)
  | _ => ("Levelhouse$Table", "isDropped", "Z", false)
def xF14 : u_T := fun k => match k with
  | 0 => ("Levelhouse", "sessions", "[LLevelhouse$Session;", true)
  | 1 => ("Levelhouse", "standing", "Ljava/util/ArrayList;", true)
  | 2 => ("Levelhouse", "shelf", "LLevelhouse$Shelf;", true)
  | 3 => ("Levelhouse", "ended", "Ljava/util/ArrayList;", true)
  | 4 => ("Levelhouse", "tally", "[I", true)
  | 5 => ("Levelhouse", "statement", "LLevelhouse$Statement;", true)
  | 6 => ("Levelhouse", "meaning", "LLevelhouse$Meaning;", true)
  | 7 => ("Levelhouse", "sight", "LLevelhouse$Sight;", true)
  | 8 => ("Levelhouse", "change", "LLevelhouse$Change;", true)
  | 9 => ("Levelhouse", "query", "LLevelhouse$Query;", true)
  | 10 => ("Levelhouse", "made", "I", false)
  | _ => ("Levelhouse", "refusal", "C", false)
def xF15 : u_T := fun k => match k with
  | 0 => ("LevelhouseLaw", "script", "[I", false)
  | 1 => ("LevelhouseLaw", "at", "I", false)
  | 2 => ("LevelhouseLaw", "seed", "I", false)
  | 3 => ("LevelhouseLaw", "x", "LLevelhouse;", true)
  | 4 => ("LevelhouseLaw", "y", "LLevelhouse;", true)
  | 5 => ("LevelhouseLaw", "labels", "[I", true)
  | 6 => ("LevelhouseLaw", "isOpen", "[Z", true)
  | _ => ("LevelhouseLaw", "top", "I", false)
def xF16 : u_T := fun k => match k with
  | 0 => ("java/lang/Enum", "ordinal", "I", true)
  | 1 => ("Levelhouse$Word", "text", "Ljava/lang/String;", true)
  | _ => ("Levelhouse$Word", "bond", "I", true)
def xCL : List vw_C := [("java/lang/String", xF0, 4), ("java/lang/StringBuilder", xF1, 4), ("java/util/ArrayList", xF2, 3), ("Levelhouse$Change", xF3, 7), ("Levelhouse$Entry", xF4, 5), ("Levelhouse$Formula", xF5, 7), ("Levelhouse$Meaning", xF6, 10), ("Levelhouse$Query", xF7, 14), ("Levelhouse$Reader", xF8, 7), ("Levelhouse$Session", xF9, 11), ("Levelhouse$Shelf", xF10, 1), ("Levelhouse$Sight", xF11, 2), ("Levelhouse$Statement", xF12, 20), ("Levelhouse$Table", xF13, 9), ("Levelhouse", xF14, 12), ("LevelhouseLaw", xF15, 8), ("Levelhouse$Word", xF16, 0)]
def xTys : List FieldType := [.int, .char, .byte, .boolean, .object "Levelhouse$Session", .object "Levelhouse$Word", .object "Levelhouse$Table", .object "java/lang/Object", .int, .int, .int, .int, .int, .int, .int, .int, .int, .int, .int, .int, .int, .int, .int, .int, .int, .object "Levelhouse$Word", .object "Levelhouse$Word", .object "Levelhouse$Word", .object "Levelhouse$Word", .object "Levelhouse$Word"]
def xTy (t : Nat) : FieldType := xTys.getD t .int
def xFTs : List (List FieldType) := [[.array .byte, .byte, .int, .boolean], [.array .byte, .byte, .boolean, .int], [.int, .array (.object "java/lang/Object"), .int], [.object "Levelhouse$Shelf", .object "java/util/ArrayList", .object "java/util/ArrayList", .object "Levelhouse$Sight", .int, .int, .boolean], [.object "Levelhouse$Table", .int, .int, .boolean, .array .int], [.array (.object "Levelhouse$Word"), .array .int, .array .int, .array .int, .array (.object "Levelhouse$Word"), .int, .int], [.object "Levelhouse$Statement", .object "java/util/ArrayList", .int, .int, .object "Levelhouse$Table", .object "Levelhouse$Table", .boolean, .int, .int, .array .int], [.object "Levelhouse$Statement", .object "Levelhouse$Meaning", .object "java/util/ArrayList", .object "java/util/ArrayList", .array .int, .int, .array .int, .int, .int, .int, .boolean, .array .int, .int, .int], [.array (.object "Levelhouse$Word"), .array .int, .array .int, .int, .int, .int, .int], [.int, .array .char, .int, .array .int, .int, .int, .char, .boolean, .object "Levelhouse$Shelf", .object "java/util/ArrayList", .int], [.object "java/util/ArrayList"], [.object "java/util/ArrayList", .int], [.object "Levelhouse$Reader", .object "Levelhouse$Formula", .object "Levelhouse$Word", .boolean, .int, .int, .int, .int, .int, .int, .int, .int, .int, .int, .int, .int, .array (.object "Levelhouse$Word"), .array .int, .array .int, .array .int], [.int, .int, .int, .array .int, .array (.object "Levelhouse$Word"), .array (.object "Levelhouse$Table"), .object "Levelhouse$Formula", .array .int, .boolean], [.array (.object "Levelhouse$Session"), .object "java/util/ArrayList", .object "Levelhouse$Shelf", .object "java/util/ArrayList", .array .int, .object "Levelhouse$Statement", .object "Levelhouse$Meaning", .object "Levelhouse$Sight", .object "Levelhouse$Change", .object "Levelhouse$Query", .int, .char], [.array .int, .int, .int, .object "Levelhouse", .object "Levelhouse", .array .int, .array .boolean, .int], [.int, .object "java/lang/String", .int]]
def xFT (ci k : Nat) : FieldType := (xFTs.getD ci []).getD k .int
def xDFs : List (List Value) := [[.null, .int 0, .int 0, .int 0], [.null, .int 0, .int 0, .int 0], [.int 0, .null, .int 0], [.null, .null, .null, .null, .int 0, .int 0, .int 0], [.null, .int 0, .int 0, .int 0, .null], [.null, .null, .null, .null, .null, .int 0, .int 0], [.null, .null, .int 0, .int 0, .null, .null, .int 0, .int 0, .int 0, .null], [.null, .null, .null, .null, .null, .int 0, .null, .int 0, .int 0, .int 0, .int 0, .null, .int 0, .int 0], [.null, .null, .null, .int 0, .int 0, .int 0, .int 0], [.int 0, .null, .int 0, .null, .int 0, .int 0, .int 0, .int 0, .null, .null, .int 0], [.null], [.null, .int 0], [.null, .null, .null, .int 0, .int 0, .int 0, .int 0, .int 0, .int 0, .int 0, .int 0, .int 0, .int 0, .int 0, .int 0, .int 0, .null, .null, .null, .null], [.int 0, .int 0, .int 0, .null, .null, .null, .null, .null, .int 0], [.null, .null, .null, .null, .null, .null, .null, .null, .null, .null, .int 0, .int 0], [.null, .int 0, .int 0, .null, .null, .null, .null, .int 0], [.int 0, .null, .int 0]]
def xDF (ci : Nat) : List Value := xDFs.getD ci []
def xSP : List (Nat × Nat) := [(9, 4), (16, 5), (13, 6), (0, 7), (1, 7), (2, 7), (3, 7), (4, 7), (5, 7), (6, 7), (7, 7), (8, 7), (9, 7), (10, 7), (11, 7), (12, 7), (13, 7), (14, 7), (15, 7), (16, 7), (16, 25), (16, 26), (16, 27), (16, 28), (16, 29)]
def xKC : List XC := [
  .inr (16, [.int 0, .retAddr 127, .int 0]),
  .inr (16, [.int 1, .retAddr 127, .int 0]),
  .inr (16, [.int 2, .retAddr 127, .int 0]),
  .inr (16, [.int 3, .retAddr 127, .int 0]),
  .inr (16, [.int 4, .retAddr 127, .int 6]),
  .inr (16, [.int 5, .retAddr 135, .int 0]),
  .inr (16, [.int 6, .retAddr 129, .int 0]),
  .inr (16, [.int 7, .retAddr 131, .int 0]),
  .inr (16, [.int 8, .retAddr 153, .int 0]),
  .inr (16, [.int 9, .retAddr 155, .int 0]),
  .inr (16, [.int 10, .retAddr 157, .int 0]),
  .inr (16, [.int 11, .retAddr 161, .int 0]),
  .inr (16, [.int 12, .retAddr 163, .int 0]),
  .inr (16, [.int 13, .retAddr 165, .int 0]),
  .inr (16, [.int 14, .retAddr 167, .int 0]),
  .inr (16, [.int 15, .retAddr 169, .int 0]),
  .inr (16, [.int 16, .retAddr 145, .int 0]),
  .inr (16, [.int 17, .retAddr 147, .int 0]),
  .inr (16, [.int 18, .retAddr 193, .int 0]),
  .inr (16, [.int 19, .retAddr 195, .int 0]),
  .inr (16, [.int 20, .retAddr 183, .int 0]),
  .inr (16, [.int 21, .retAddr 197, .int 0]),
  .inr (16, [.int 22, .retAddr 173, .int 0]),
  .inr (16, [.int 23, .retAddr 175, .int 0]),
  .inr (16, [.int 24, .retAddr 177, .int 0]),
  .inr (16, [.int 25, .retAddr 179, .int 0]),
  .inr (16, [.int 26, .retAddr 171, .int 0]),
  .inr (16, [.int 27, .retAddr 185, .int 0]),
  .inr (16, [.int 28, .retAddr 181, .int 0]),
  .inr (16, [.int 29, .retAddr 187, .int 0]),
  .inr (16, [.int 30, .retAddr 137, .int 0]),
  .inr (16, [.int 31, .retAddr 139, .int 0]),
  .inr (16, [.int 32, .retAddr 141, .int 0]),
  .inr (16, [.int 33, .retAddr 143, .int 0]),
  .inr (16, [.int 34, .retAddr 199, .int 0]),
  .inr (16, [.int 35, .retAddr 201, .int 6]),
  .inr (16, [.int 36, .retAddr 149, .int 0]),
  .inr (16, [.int 37, .retAddr 151, .int 0]),
  .inr (16, [.int 38, .retAddr 133, .int 0]),
  .inr (16, [.int 39, .retAddr 159, .int 3]),
  .inr (16, [.int 40, .retAddr 203, .int 3]),
  .inr (16, [.int 41, .retAddr 205, .int 3]),
  .inr (16, [.int 42, .retAddr 207, .int 3]),
  .inr (16, [.int 43, .retAddr 209, .int 4]),
  .inr (16, [.int 44, .retAddr 211, .int 4]),
  .inr (16, [.int 45, .retAddr 213, .int 5]),
  .inr (16, [.int 46, .retAddr 215, .int 5]),
  .inr (16, [.int 47, .retAddr 217, .int 5]),
  .inr (16, [.int 48, .retAddr 191, .int 2]),
  .inr (16, [.int 49, .retAddr 189, .int 1]),
  .inr (16, [.int 50, .retAddr 219, .int 6]),
  .inr (0, [.retAddr 52, .int 0]),
  .inl (2, [.int 116, .int 97, .int 98, .int 108, .int 101, .int 32, .int 97, .int 40, .int 107, .int 32, .int 107, .int 101, .int 121, .int 44, .int 118, .int 32, .int 110, .int 117, .int 109, .int 41]),
  .inr (0, [.retAddr 54, .int 0]),
  .inl (2, [.int 98]),
  .inr (0, [.retAddr 56, .int 0]),
  .inl (2, [.int 97]),
  .inr (0, [.retAddr 58, .int 0]),
  .inl (2, [.int 116, .int 97, .int 98, .int 108, .int 101, .int 32, .int 97, .int 40, .int 107, .int 32, .int 107, .int 101, .int 121, .int 44, .int 118, .int 32, .int 117, .int 110, .int 105, .int 113, .int 41, .int 32, .int 105, .int 102, .int 32, .int 118, .int 60, .int 57]),
  .inr (0, [.retAddr 60, .int 0]),
  .inl (2, [.int 116, .int 97, .int 98, .int 108, .int 101, .int 32, .int 98, .int 40, .int 107, .int 32, .int 97, .int 117, .int 116, .int 111, .int 44, .int 114, .int 32, .int 114, .int 101, .int 102, .int 32, .int 97, .int 44, .int 118, .int 32, .int 110, .int 117, .int 109, .int 41]),
  .inr (0, [.retAddr 62, .int 0]),
  .inl (2, [.int 100, .int 114, .int 111, .int 112, .int 32]),
  .inr (0, [.retAddr 64, .int 0]),
  .inl (2, [.int 103, .int 101, .int 116, .int 32, .int 99, .int 111, .int 117, .int 110, .int 116, .int 44, .int 115, .int 117, .int 109, .int 40, .int 118, .int 41, .int 32, .int 102, .int 114, .int 111, .int 109, .int 32]),
  .inr (0, [.retAddr 66, .int 0]),
  .inl (2, [.int 112, .int 117, .int 116, .int 32, .int 97, .int 40]),
  .inr (0, [.retAddr 68, .int 0]),
  .inl (2, [.int 44]),
  .inr (0, [.retAddr 70, .int 0]),
  .inl (2, [.int 110, .int 111, .int 110, .int 101]),
  .inr (0, [.retAddr 72, .int 0]),
  .inl (2, [.int 40, .int 48, .int 45]),
  .inr (0, [.retAddr 74, .int 0]),
  .inl (2, [.int 41]),
  .inr (0, [.retAddr 76, .int 0]),
  .inl (2, []),
  .inr (0, [.retAddr 78, .int 0]),
  .inl (2, [.int 112, .int 117, .int 116, .int 32, .int 98, .int 40, .int 110, .int 101, .int 120, .int 116, .int 44]),
  .inr (0, [.retAddr 80, .int 0]),
  .inl (2, [.int 115, .int 101, .int 116, .int 32]),
  .inr (0, [.retAddr 82, .int 0]),
  .inl (2, [.int 32, .int 118, .int 61]),
  .inr (0, [.retAddr 84, .int 0]),
  .inl (2, [.int 118, .int 43]),
  .inr (0, [.retAddr 86, .int 0]),
  .inl (2, [.int 32, .int 105, .int 102, .int 32, .int 107, .int 61]),
  .inr (0, [.retAddr 88, .int 0]),
  .inl (2, [.int 32, .int 105, .int 102, .int 32, .int 118, .int 62]),
  .inr (0, [.retAddr 90, .int 0]),
  .inl (2, [.int 32, .int 105, .int 102, .int 32, .int 108, .int 97, .int 98, .int 101, .int 108, .int 62, .int 48, .int 124, .int 107, .int 110, .int 111, .int 119, .int 110, .int 32, .int 118]),
  .inr (0, [.retAddr 92, .int 0]),
  .inl (2, [.int 99, .int 117, .int 116, .int 32]),
  .inr (0, [.retAddr 94, .int 0]),
  .inl (2, [.int 103, .int 101, .int 116, .int 32, .int 97, .int 108, .int 108, .int 32, .int 102, .int 114, .int 111, .int 109, .int 32]),
  .inr (0, [.retAddr 96, .int 0]),
  .inl (2, [.int 32, .int 100, .int 111, .int 119, .int 110, .int 32, .int 50]),
  .inr (0, [.retAddr 98, .int 0]),
  .inl (2, [.int 103, .int 101, .int 116, .int 32, .int 101, .int 97, .int 99, .int 104, .int 32, .int 107, .int 44, .int 118, .int 44, .int 108, .int 97, .int 98, .int 101, .int 108, .int 32, .int 102, .int 114, .int 111, .int 109, .int 32]),
  .inr (0, [.retAddr 100, .int 0]),
  .inl (2, [.int 103, .int 101, .int 116, .int 32, .int 107, .int 32, .int 102, .int 114, .int 111, .int 109, .int 32, .int 98, .int 32, .int 106, .int 111, .int 105, .int 110, .int 32, .int 97, .int 32, .int 111, .int 110, .int 32, .int 114, .int 61, .int 107]),
  .inr (0, [.retAddr 102, .int 0]),
  .inl (2, [.int 103, .int 101, .int 116, .int 32, .int 118, .int 44, .int 99, .int 111, .int 117, .int 110, .int 116, .int 44, .int 109, .int 111, .int 115, .int 116, .int 40, .int 107, .int 41, .int 32, .int 102, .int 114, .int 111, .int 109, .int 32]),
  .inr (0, [.retAddr 104, .int 0]),
  .inl (2, [.int 32, .int 98, .int 121, .int 32, .int 118, .int 32, .int 116, .int 111, .int 112, .int 32]),
  .inr (0, [.retAddr 106, .int 0]),
  .inl (2, [.int 108, .int 111, .int 119, .int 101, .int 114, .int 32, .int 97, .int 32]),
  .inr (0, [.retAddr 108, .int 0]),
  .inl (2, [.int 32, .int 116, .int 111, .int 32]),
  .inr (0, [.retAddr 110, .int 0]),
  .inl (2, [.int 103, .int 101, .int 116, .int 32, .int 108, .int 97, .int 98, .int 101, .int 108, .int 32, .int 102, .int 114, .int 111, .int 109, .int 32]),
  .inr (0, [.retAddr 112, .int 0]),
  .inl (2, [.int 103, .int 101, .int 116, .int 32, .int 97, .int 108, .int 108, .int 32, .int 102, .int 114, .int 111, .int 109]),
  .inr (0, [.retAddr 114, .int 0]),
  .inl (2, [.int 112, .int 117, .int 116, .int 32, .int 97, .int 40, .int 49, .int 41]),
  .inr (0, [.retAddr 116, .int 0]),
  .inl (2, [.int 103, .int 101, .int 116]),
  .inr (0, [.retAddr 118, .int 0]),
  .inl (2, [.int 100, .int 114, .int 111, .int 112]),
  .inr (0, [.retAddr 120, .int 0]),
  .inl (2, [.int 116, .int 97, .int 98, .int 108, .int 101]),
  .inr (0, [.retAddr 122, .int 0]),
  .inl (2, [.int 103, .int 101, .int 116, .int 32, .int 114, .int 32, .int 102, .int 114, .int 111, .int 109, .int 32, .int 98, .int 32, .int 105, .int 102, .int 32, .int 107, .int 110, .int 111, .int 119, .int 110, .int 32, .int 114]),
  .inr (0, [.retAddr 124, .int 0]),
  .inl (2, [.int 103, .int 101, .int 116, .int 32, .int 114, .int 44, .int 99, .int 111, .int 117, .int 110, .int 116, .int 32, .int 102, .int 114, .int 111, .int 109, .int 32, .int 98, .int 32, .int 106, .int 111, .int 105, .int 110, .int 32, .int 97, .int 32, .int 111, .int 110, .int 32, .int 114, .int 61, .int 107, .int 32, .int 98, .int 121, .int 32, .int 114]),
  .inr (0, [.retAddr 126, .int 0]),
  .inl (2, [.int 103, .int 101, .int 116, .int 32, .int 114, .int 44, .int 99, .int 111, .int 117, .int 110, .int 116, .int 32, .int 102, .int 114, .int 111, .int 109, .int 32, .int 98, .int 32, .int 105, .int 102, .int 32, .int 107, .int 110, .int 111, .int 119, .int 110, .int 32, .int 114, .int 32, .int 98, .int 121, .int 32, .int 114]),
  .inr (0, [.retAddr 128, .int 0]),
  .inl (2, []),
  .inr (0, [.retAddr 130, .int 0]),
  .inl (2, [.int 101, .int 97, .int 99, .int 104]),
  .inr (0, [.retAddr 132, .int 0]),
  .inl (2, [.int 97, .int 108, .int 108]),
  .inr (0, [.retAddr 134, .int 0]),
  .inl (2, [.int 44]),
  .inr (0, [.retAddr 136, .int 0]),
  .inl (2, [.int 103, .int 101, .int 116]),
  .inr (0, [.retAddr 138, .int 0]),
  .inl (2, [.int 99, .int 111, .int 117, .int 110, .int 116]),
  .inr (0, [.retAddr 140, .int 0]),
  .inl (2, [.int 115, .int 117, .int 109]),
  .inr (0, [.retAddr 142, .int 0]),
  .inl (2, [.int 108, .int 101, .int 97, .int 115, .int 116]),
  .inr (0, [.retAddr 144, .int 0]),
  .inl (2, [.int 109, .int 111, .int 115, .int 116]),
  .inr (0, [.retAddr 146, .int 0]),
  .inl (2, [.int 112, .int 117, .int 116]),
  .inr (0, [.retAddr 148, .int 0]),
  .inl (2, [.int 110, .int 101, .int 120, .int 116]),
  .inr (0, [.retAddr 150, .int 0]),
  .inl (2, [.int 40]),
  .inr (0, [.retAddr 152, .int 0]),
  .inl (2, [.int 41]),
  .inr (0, [.retAddr 154, .int 0]),
  .inl (2, [.int 102, .int 114, .int 111, .int 109]),
  .inr (0, [.retAddr 156, .int 0]),
  .inl (2, [.int 106, .int 111, .int 105, .int 110]),
  .inr (0, [.retAddr 158, .int 0]),
  .inl (2, [.int 111, .int 110]),
  .inr (0, [.retAddr 160, .int 0]),
  .inl (2, [.int 61]),
  .inr (0, [.retAddr 162, .int 0]),
  .inl (2, [.int 105, .int 102]),
  .inr (0, [.retAddr 164, .int 0]),
  .inl (2, [.int 98, .int 121]),
  .inr (0, [.retAddr 166, .int 0]),
  .inl (2, [.int 117, .int 112]),
  .inr (0, [.retAddr 168, .int 0]),
  .inl (2, [.int 100, .int 111, .int 119, .int 110]),
  .inr (0, [.retAddr 170, .int 0]),
  .inl (2, [.int 116, .int 111, .int 112]),
  .inr (0, [.retAddr 172, .int 0]),
  .inl (2, [.int 114, .int 101, .int 102]),
  .inr (0, [.retAddr 174, .int 0]),
  .inl (2, [.int 107, .int 101, .int 121]),
  .inr (0, [.retAddr 176, .int 0]),
  .inl (2, [.int 97, .int 117, .int 116, .int 111]),
  .inr (0, [.retAddr 178, .int 0]),
  .inl (2, [.int 110, .int 117, .int 109]),
  .inr (0, [.retAddr 180, .int 0]),
  .inl (2, [.int 117, .int 110, .int 105, .int 113]),
  .inr (0, [.retAddr 182, .int 0]),
  .inl (2, [.int 116, .int 111]),
  .inr (0, [.retAddr 184, .int 0]),
  .inl (2, [.int 116, .int 97, .int 98, .int 108, .int 101]),
  .inr (0, [.retAddr 186, .int 0]),
  .inl (2, [.int 108, .int 111, .int 119, .int 101, .int 114]),
  .inr (0, [.retAddr 188, .int 0]),
  .inl (2, [.int 108, .int 97, .int 98, .int 101, .int 108]),
  .inr (0, [.retAddr 190, .int 0]),
  .inl (2, [.int 124]),
  .inr (0, [.retAddr 192, .int 0]),
  .inl (2, [.int 38]),
  .inr (0, [.retAddr 194, .int 0]),
  .inl (2, [.int 115, .int 101, .int 116]),
  .inr (0, [.retAddr 196, .int 0]),
  .inl (2, [.int 99, .int 117, .int 116]),
  .inr (0, [.retAddr 198, .int 0]),
  .inl (2, [.int 100, .int 114, .int 111, .int 112]),
  .inr (0, [.retAddr 200, .int 0]),
  .inl (2, [.int 110, .int 111, .int 110, .int 101]),
  .inr (0, [.retAddr 202, .int 0]),
  .inl (2, [.int 107, .int 110, .int 111, .int 119, .int 110]),
  .inr (0, [.retAddr 204, .int 0]),
  .inl (2, [.int 35]),
  .inr (0, [.retAddr 206, .int 0]),
  .inl (2, [.int 60]),
  .inr (0, [.retAddr 208, .int 0]),
  .inl (2, [.int 62]),
  .inr (0, [.retAddr 210, .int 0]),
  .inl (2, [.int 43]),
  .inr (0, [.retAddr 212, .int 0]),
  .inl (2, [.int 45]),
  .inr (0, [.retAddr 214, .int 0]),
  .inl (2, [.int 42]),
  .inr (0, [.retAddr 216, .int 0]),
  .inl (2, [.int 47]),
  .inr (0, [.retAddr 218, .int 0]),
  .inl (2, [.int 37]),
  .inr (0, [.retAddr 220, .int 0]),
  .inl (2, [.int 33]),
  .inl (5, [.retAddr 0, .retAddr 1, .retAddr 2, .retAddr 3, .retAddr 4, .retAddr 5, .retAddr 6, .retAddr 7, .retAddr 8, .retAddr 9, .retAddr 10, .retAddr 11, .retAddr 12, .retAddr 13, .retAddr 14, .retAddr 15, .retAddr 16, .retAddr 17, .retAddr 18, .retAddr 19, .retAddr 20, .retAddr 21, .retAddr 22, .retAddr 23, .retAddr 24, .retAddr 25, .retAddr 26, .retAddr 27, .retAddr 28, .retAddr 29, .retAddr 30, .retAddr 31, .retAddr 32, .retAddr 33, .retAddr 34, .retAddr 35, .retAddr 36, .retAddr 37, .retAddr 38, .retAddr 39, .retAddr 40, .retAddr 41, .retAddr 42, .retAddr 43, .retAddr 44, .retAddr 45, .retAddr 46, .retAddr 47, .retAddr 48, .retAddr 49, .retAddr 50]),
  .inl (0, [.int 0, .int 0, .int 5, .int 8, .int 13, .int 1, .int 0, .int 0, .int 0, .int 0, .int 0, .int 0, .int 0, .int 0, .int 0, .int 0, .int 21, .int 0, .int 22, .int 23, .int 2, .int 3, .int 0, .int 0, .int 0, .int 0, .int 0, .int 4, .int 0, .int 7, .int 0, .int 0, .int 0, .int 0, .int 6, .int 11, .int 12, .int 0, .int 0, .int 14, .int 15, .int 16, .int 17, .int 18, .int 9, .int 19, .int 20, .int 0, .int 0, .int 0, .int 10]),
  .inl (2, [.int 48, .int 48, .int 48, .int 48, .int 48, .int 48, .int 48, .int 48, .int 48, .int 48, .int 49, .int 49, .int 49, .int 49, .int 49, .int 49, .int 49, .int 49, .int 49, .int 49, .int 50, .int 50, .int 50, .int 50, .int 50, .int 50, .int 50, .int 50, .int 50, .int 50, .int 51, .int 51, .int 51, .int 51, .int 51, .int 51, .int 51, .int 51, .int 51, .int 51, .int 52, .int 52, .int 52, .int 52, .int 52, .int 52, .int 52, .int 52, .int 52, .int 52, .int 53, .int 53, .int 53, .int 53, .int 53, .int 53, .int 53, .int 53, .int 53, .int 53, .int 54, .int 54, .int 54, .int 54, .int 54, .int 54, .int 54, .int 54, .int 54, .int 54, .int 55, .int 55, .int 55, .int 55, .int 55, .int 55, .int 55, .int 55, .int 55, .int 55, .int 56, .int 56, .int 56, .int 56, .int 56, .int 56, .int 56, .int 56, .int 56, .int 56, .int 57, .int 57, .int 57, .int 57, .int 57, .int 57, .int 57, .int 57, .int 57, .int 57]),
  .inl (2, [.int 48, .int 49, .int 50, .int 51, .int 52, .int 53, .int 54, .int 55, .int 56, .int 57, .int 48, .int 49, .int 50, .int 51, .int 52, .int 53, .int 54, .int 55, .int 56, .int 57, .int 48, .int 49, .int 50, .int 51, .int 52, .int 53, .int 54, .int 55, .int 56, .int 57, .int 48, .int 49, .int 50, .int 51, .int 52, .int 53, .int 54, .int 55, .int 56, .int 57, .int 48, .int 49, .int 50, .int 51, .int 52, .int 53, .int 54, .int 55, .int 56, .int 57, .int 48, .int 49, .int 50, .int 51, .int 52, .int 53, .int 54, .int 55, .int 56, .int 57, .int 48, .int 49, .int 50, .int 51, .int 52, .int 53, .int 54, .int 55, .int 56, .int 57, .int 48, .int 49, .int 50, .int 51, .int 52, .int 53, .int 54, .int 55, .int 56, .int 57, .int 48, .int 49, .int 50, .int 51, .int 52, .int 53, .int 54, .int 55, .int 56, .int 57, .int 48, .int 49, .int 50, .int 51, .int 52, .int 53, .int 54, .int 55, .int 56, .int 57]),
  .inl (7, [])]
def xST : List (String × String × String × Value) := [
  ("Levelhouse$Word", "END", "LLevelhouse$Word;", .retAddr 0),
  ("Levelhouse$Word", "BAD", "LLevelhouse$Word;", .retAddr 1),
  ("Levelhouse$Word", "NUMBER", "LLevelhouse$Word;", .retAddr 2),
  ("Levelhouse$Word", "NAME", "LLevelhouse$Word;", .retAddr 3),
  ("Levelhouse$Word", "NEGATE", "LLevelhouse$Word;", .retAddr 4),
  ("Levelhouse$Word", "GET", "LLevelhouse$Word;", .retAddr 5),
  ("Levelhouse$Word", "EACH", "LLevelhouse$Word;", .retAddr 6),
  ("Levelhouse$Word", "ALL", "LLevelhouse$Word;", .retAddr 7),
  ("Levelhouse$Word", "FROM", "LLevelhouse$Word;", .retAddr 8),
  ("Levelhouse$Word", "JOIN", "LLevelhouse$Word;", .retAddr 9),
  ("Levelhouse$Word", "ON", "LLevelhouse$Word;", .retAddr 10),
  ("Levelhouse$Word", "IF", "LLevelhouse$Word;", .retAddr 11),
  ("Levelhouse$Word", "BY", "LLevelhouse$Word;", .retAddr 12),
  ("Levelhouse$Word", "UP", "LLevelhouse$Word;", .retAddr 13),
  ("Levelhouse$Word", "DOWN", "LLevelhouse$Word;", .retAddr 14),
  ("Levelhouse$Word", "TOP", "LLevelhouse$Word;", .retAddr 15),
  ("Levelhouse$Word", "PUT", "LLevelhouse$Word;", .retAddr 16),
  ("Levelhouse$Word", "NEXT", "LLevelhouse$Word;", .retAddr 17),
  ("Levelhouse$Word", "SET", "LLevelhouse$Word;", .retAddr 18),
  ("Levelhouse$Word", "CUT", "LLevelhouse$Word;", .retAddr 19),
  ("Levelhouse$Word", "TABLE", "LLevelhouse$Word;", .retAddr 20),
  ("Levelhouse$Word", "DROP", "LLevelhouse$Word;", .retAddr 21),
  ("Levelhouse$Word", "KEY", "LLevelhouse$Word;", .retAddr 22),
  ("Levelhouse$Word", "AUTO", "LLevelhouse$Word;", .retAddr 23),
  ("Levelhouse$Word", "NUM", "LLevelhouse$Word;", .retAddr 24),
  ("Levelhouse$Word", "UNIQ", "LLevelhouse$Word;", .retAddr 25),
  ("Levelhouse$Word", "REF", "LLevelhouse$Word;", .retAddr 26),
  ("Levelhouse$Word", "LOWER", "LLevelhouse$Word;", .retAddr 27),
  ("Levelhouse$Word", "TO", "LLevelhouse$Word;", .retAddr 28),
  ("Levelhouse$Word", "LABEL", "LLevelhouse$Word;", .retAddr 29),
  ("Levelhouse$Word", "COUNT", "LLevelhouse$Word;", .retAddr 30),
  ("Levelhouse$Word", "SUM", "LLevelhouse$Word;", .retAddr 31),
  ("Levelhouse$Word", "LEAST", "LLevelhouse$Word;", .retAddr 32),
  ("Levelhouse$Word", "MOST", "LLevelhouse$Word;", .retAddr 33),
  ("Levelhouse$Word", "NONE", "LLevelhouse$Word;", .retAddr 34),
  ("Levelhouse$Word", "KNOWN", "LLevelhouse$Word;", .retAddr 35),
  ("Levelhouse$Word", "OPEN", "LLevelhouse$Word;", .retAddr 36),
  ("Levelhouse$Word", "CLOSE", "LLevelhouse$Word;", .retAddr 37),
  ("Levelhouse$Word", "COMMA", "LLevelhouse$Word;", .retAddr 38),
  ("Levelhouse$Word", "EQUAL", "LLevelhouse$Word;", .retAddr 39),
  ("Levelhouse$Word", "UNLIKE", "LLevelhouse$Word;", .retAddr 40),
  ("Levelhouse$Word", "LESS", "LLevelhouse$Word;", .retAddr 41),
  ("Levelhouse$Word", "GREATER", "LLevelhouse$Word;", .retAddr 42),
  ("Levelhouse$Word", "PLUS", "LLevelhouse$Word;", .retAddr 43),
  ("Levelhouse$Word", "MINUS", "LLevelhouse$Word;", .retAddr 44),
  ("Levelhouse$Word", "TIMES", "LLevelhouse$Word;", .retAddr 45),
  ("Levelhouse$Word", "OVER", "LLevelhouse$Word;", .retAddr 46),
  ("Levelhouse$Word", "REST", "LLevelhouse$Word;", .retAddr 47),
  ("Levelhouse$Word", "BOTH", "LLevelhouse$Word;", .retAddr 48),
  ("Levelhouse$Word", "EITHER", "LLevelhouse$Word;", .retAddr 49),
  ("Levelhouse$Word", "NOT", "LLevelhouse$Word;", .retAddr 50),
  ("Levelhouse", "WORDS", "[LLevelhouse$Word;", .retAddr 221),
  ("Levelhouse$1", "$SwitchMap$Levelhouse$Word", "[I", .retAddr 222),
  ("java/lang/Integer", "DigitTens", "[B", .retAddr 223),
  ("java/lang/Integer", "DigitOnes", "[B", .retAddr 224),
  ("java/util/ArrayList", "DEFAULTCAPACITY_EMPTY_ELEMENTDATA", "[Ljava/lang/Object;", .retAddr 225),
  ("java/lang/String", "COMPACT_STRINGS", "Z", .int 1),
  ("java/lang/StringUTF16", "$assertionsDisabled", "Z", .int 1),
  ("java/lang/StringUTF16", "HI_BYTE_SHIFT", "I", .int 0),
  ("java/lang/StringUTF16", "LO_BYTE_SHIFT", "I", .int 8),
  ("jdk/internal/misc/Unsafe", "ARRAY_BYTE_BASE_OFFSET", "I", .int 16),
  ("jdk/internal/util/ArraysSupport", "LOG2_ARRAY_BYTE_INDEX_SCALE", "I", .int 0),
  ("jdk/internal/util/ArraysSupport", "LOG2_ARRAY_LONG_INDEX_SCALE", "I", .int 3),
  ("jdk/internal/misc/UnsafeConstants", "BIG_ENDIAN", "Z", .int 0),
  ("jdk/internal/util/ArraysSupport", "BIG_ENDIAN", "Z", .int 0),
  ("jdk/internal/util/ArraysSupport", "LOG2_BYTE_BIT_SIZE", "I", .int 3),
  ("jdk/internal/util/ArraysSupport", "LOG2_ARRAY_INT_INDEX_SCALE", "I", .int 2),
  ("jdk/internal/util/Preconditions", "SIOOBE_FORMATTER", "Ljava/util/function/BiFunction;", .float 228)]
def xNC : XN := ([("java/lang/UnsupportedOperationException", "java/lang/IllegalStateException")], [("LevelhouseLaw", 138, "table a(k key,v num)", 51), ("LevelhouseLaw", 134, "b", 53), ("LevelhouseLaw", 136, "a", 55), ("LevelhouseLaw", 140, "table a(k key,v uniq) if v<9", 57), ("LevelhouseLaw", 142, "table b(k auto,r ref a,v num)", 59), ("LevelhouseLaw", 144, "drop ", 61), ("LevelhouseLaw", 146, "get count,sum(v) from ", 63), ("LevelhouseLaw", 148, "put a(", 65), ("LevelhouseLaw", 150, ",", 67), ("LevelhouseLaw", 106, "none", 69), ("LevelhouseLaw", 111, "(0-", 71), ("LevelhouseLaw", 120, ")", 73), ("LevelhouseLaw", 126, "", 75), ("LevelhouseLaw", 155, "put b(next,", 77), ("LevelhouseLaw", 157, "set ", 79), ("LevelhouseLaw", 159, " v=", 81), ("LevelhouseLaw", 161, "v+", 83), ("LevelhouseLaw", 128, " if k=", 85), ("LevelhouseLaw", 130, " if v>", 87), ("LevelhouseLaw", 132, " if label>0|known v", 89), ("LevelhouseLaw", 166, "cut ", 91), ("LevelhouseLaw", 168, "get all from ", 93), ("LevelhouseLaw", 170, " down 2", 95), ("LevelhouseLaw", 172, "get each k,v,label from ", 97), ("LevelhouseLaw", 174, "get k from b join a on r=k", 99), ("LevelhouseLaw", 176, "get v,count,most(k) from ", 101), ("LevelhouseLaw", 178, " by v top ", 103), ("LevelhouseLaw", 180, "lower a ", 105), ("LevelhouseLaw", 182, " to ", 107), ("LevelhouseLaw", 184, "get label from ", 109), ("LevelhouseLaw", 186, "get all from", 111), ("LevelhouseLaw", 188, "put a(1)", 113), ("LevelhouseLaw", 238, "get", 115), ("LevelhouseLaw", 244, "drop", 117), ("LevelhouseLaw", 246, "table", 119), ("LevelhouseLaw", 255, "get r from b if known r", 121), ("LevelhouseLaw", 257, "get r,count from b join a on r=k by r", 123), ("LevelhouseLaw", 259, "get r,count from b if known r by r", 125), ("Levelhouse$Word", 195, "", 127), ("Levelhouse$Word", 208, "each", 129), ("Levelhouse$Word", 211, "all", 131), ("Levelhouse$Word", 304, ",", 133), ("Levelhouse$Word", 205, "get", 135), ("Levelhouse$Word", 280, "count", 137), ("Levelhouse$Word", 283, "sum", 139), ("Levelhouse$Word", 286, "least", 141), ("Levelhouse$Word", 289, "most", 143), ("Levelhouse$Word", 238, "put", 145), ("Levelhouse$Word", 241, "next", 147), ("Levelhouse$Word", 298, "(", 149), ("Levelhouse$Word", 301, ")", 151), ("Levelhouse$Word", 214, "from", 153), ("Levelhouse$Word", 217, "join", 155), ("Levelhouse$Word", 220, "on", 157), ("Levelhouse$Word", 307, "=", 159), ("Levelhouse$Word", 223, "if", 161), ("Levelhouse$Word", 226, "by", 163), ("Levelhouse$Word", 229, "up", 165), ("Levelhouse$Word", 232, "down", 167), ("Levelhouse$Word", 235, "top", 169), ("Levelhouse$Word", 268, "ref", 171), ("Levelhouse$Word", 256, "key", 173), ("Levelhouse$Word", 259, "auto", 175), ("Levelhouse$Word", 262, "num", 177), ("Levelhouse$Word", 265, "uniq", 179), ("Levelhouse$Word", 274, "to", 181), ("Levelhouse$Word", 250, "table", 183), ("Levelhouse$Word", 271, "lower", 185), ("Levelhouse$Word", 277, "label", 187), ("Levelhouse$Word", 337, "|", 189), ("Levelhouse$Word", 334, "&", 191), ("Levelhouse$Word", 244, "set", 193), ("Levelhouse$Word", 247, "cut", 195), ("Levelhouse$Word", 253, "drop", 197), ("Levelhouse$Word", 292, "none", 199), ("Levelhouse$Word", 295, "known", 201), ("Levelhouse$Word", 310, "#", 203), ("Levelhouse$Word", 313, "<", 205), ("Levelhouse$Word", 316, ">", 207), ("Levelhouse$Word", 319, "+", 209), ("Levelhouse$Word", 322, "-", 211), ("Levelhouse$Word", 325, "*", 213), ("Levelhouse$Word", 328, "/", 215), ("Levelhouse$Word", 331, "%", 217), ("Levelhouse$Word", 340, "!", 219)], [("[Ljava/lang/Object;", 227)])
def xEX : Nat → String := fun k => match k with
  | 0 => "java/lang/IndexOutOfBoundsException"
  | 1 => "java/lang/IllegalArgumentException"
  | 2 => "java/lang/IllegalStateException"
  | 3 => "java/lang/UnsupportedOperationException"
  | _ => "java/util/NoSuchElementException"
def xZ (S : List Int32) : XP := (xTy, 30, xSP, xFT, xDF, xKC, S)
def xEN : List String := ["java/lang/RuntimeException", "java/lang/Exception"]
