/-! NAMES AND TABLES, by program: classes with their fields, methods with their words, what the constant pools link; every row is held against the tables below. -/
def RR1 : String := "RecordReconciler$Batch"
def TT1 : u_T := fun k => match k with
  | 0 => ("RecordReconciler$Batch", "sources", "[I", true)
  | 1 => ("RecordReconciler$Batch", "keys", "[I", true)
  | 2 => ("RecordReconciler$Batch", "amounts", "[I", true)
  | _ => ("RecordReconciler$Batch", "size", "I", false)
def tt1 : Nat → FieldType := fun k => match k with
  | 0 => .array .int
  | 1 => .array .int
  | 2 => .array .int
  | _ => .int
theorem nn1 : ∀ a, a < 4 → ∀ b, b < 4 → a ≠ b → (TT1 a).2.1 ≠ (TT1 b).2.1 := by decide +kernel
theorem tt1_ok : ∀ k, k < 4 → parseFieldDescriptor (TT1 k).2.2.1 = some (tt1 k) := by decide +kernel
def RR2 : String := "RecordReconciler$Book"
def TT2 : u_T := fun k => match k with
  | 0 => ("RecordReconciler$Book", "table", "LRecordReconciler$KeyTable;", true)
  | 1 => ("RecordReconciler$Book", "batch", "LRecordReconciler$Batch;", true)
  | 2 => ("RecordReconciler$Book", "trust", "[I", true)
  | 3 => ("RecordReconciler$Book", "totals", "[I", true)
  | _ => ("RecordReconciler$Book", "today", "I", false)
def tt2 : Nat → FieldType := fun k => match k with
  | 0 => .object "RecordReconciler$KeyTable"
  | 1 => .object "RecordReconciler$Batch"
  | 2 => .array .int
  | 3 => .array .int
  | _ => .int
theorem nn2 : ∀ a, a < 5 → ∀ b, b < 5 → a ≠ b → (TT2 a).2.1 ≠ (TT2 b).2.1 := by decide +kernel
theorem tt2_ok : ∀ k, k < 5 → parseFieldDescriptor (TT2 k).2.2.1 = some (tt2 k) := by decide +kernel
def RR3 : String := "RecordReconciler$Groups"
def TT3 : u_T := fun k => match k with
  | 0 => ("RecordReconciler$Groups", "links", "[I", true)
  | 1 => ("RecordReconciler$Groups", "parents", "[I", true)
  | 2 => ("RecordReconciler$Groups", "queue", "[I", true)
  | _ => ("RecordReconciler$Groups", "rows", "I", false)
def tt3 : Nat → FieldType := fun k => match k with
  | 0 => .array .int
  | 1 => .array .int
  | 2 => .array .int
  | _ => .int
theorem nn3 : ∀ a, a < 4 → ∀ b, b < 4 → a ≠ b → (TT3 a).2.1 ≠ (TT3 b).2.1 := by decide +kernel
theorem tt3_ok : ∀ k, k < 4 → parseFieldDescriptor (TT3 k).2.2.1 = some (tt3 k) := by decide +kernel
def RR4 : String := "RecordReconciler$History"
def TT4 : u_T := fun k => match k with
  | 0 => ("RecordReconciler$History", "kept", "[LRecordReconciler$Book;", true)
  | 1 => ("RecordReconciler$History", "newest", "I", false)
  | _ => ("RecordReconciler$History", "size", "I", false)
def tt4 : Nat → FieldType := fun k => match k with
  | 0 => .array (.object "RecordReconciler$Book")
  | 1 => .int
  | _ => .int
theorem nn4 : ∀ a, a < 3 → ∀ b, b < 3 → a ≠ b → (TT4 a).2.1 ≠ (TT4 b).2.1 := by decide +kernel
theorem tt4_ok : ∀ k, k < 3 → parseFieldDescriptor (TT4 k).2.2.1 = some (tt4 k) := by decide +kernel
def RR5 : String := "RecordReconciler$KeyTable"
def TT5 : u_T := fun k => match k with
  | 0 => ("RecordReconciler$KeyTable", "keys", "[I", true)
  | 1 => ("RecordReconciler$KeyTable", "amounts", "[[I", true)
  | 2 => ("RecordReconciler$KeyTable", "days", "[[I", true)
  | 3 => ("RecordReconciler$KeyTable", "rows", "I", false)
  | _ => ("RecordReconciler$KeyTable", "records", "I", false)
def tt5 : Nat → FieldType := fun k => match k with
  | 0 => .array .int
  | 1 => .array (.array .int)
  | 2 => .array (.array .int)
  | 3 => .int
  | _ => .int
theorem nn5 : ∀ a, a < 5 → ∀ b, b < 5 → a ≠ b → (TT5 a).2.1 ≠ (TT5 b).2.1 := by decide +kernel
theorem tt5_ok : ∀ k, k < 5 → parseFieldDescriptor (TT5 k).2.2.1 = some (tt5 k) := by decide +kernel
def RR6 : String := "RecordReconciler$Matching"
def TT6 : u_T := fun k => match k with
  | 0 => ("RecordReconciler$Matching", "reach", "[I", true)
  | 1 => ("RecordReconciler$Matching", "mates", "[I", true)
  | 2 => ("RecordReconciler$Matching", "reachedBy", "[I", true)
  | 3 => ("RecordReconciler$Matching", "queue", "[I", true)
  | 4 => ("RecordReconciler$Matching", "layers", "[I", true)
  | 5 => ("RecordReconciler$Matching", "nextTries", "[I", true)
  | 6 => ("RecordReconciler$Matching", "path", "[I", true)
  | 7 => ("RecordReconciler$Matching", "rows", "I", false)
  | _ => ("RecordReconciler$Matching", "lastLayer", "I", false)
def tt6 : Nat → FieldType := fun k => match k with
  | 0 => .array .int
  | 1 => .array .int
  | 2 => .array .int
  | 3 => .array .int
  | 4 => .array .int
  | 5 => .array .int
  | 6 => .array .int
  | 7 => .int
  | _ => .int
theorem nn6 : ∀ a, a < 9 → ∀ b, b < 9 → a ≠ b → (TT6 a).2.1 ≠ (TT6 b).2.1 := by decide +kernel
theorem tt6_ok : ∀ k, k < 9 → parseFieldDescriptor (TT6 k).2.2.1 = some (tt6 k) := by decide +kernel
def RR7 : String := "RecordReconciler$Program"
def TT7 : u_T := fun k => match k with
  | 0 => ("RecordReconciler$Program", "text", "[C", true)
  | 1 => ("RecordReconciler$Program", "length", "I", false)
  | 2 => ("RecordReconciler$Program", "kinds", "[I", true)
  | 3 => ("RecordReconciler$Program", "sources", "[C", true)
  | 4 => ("RecordReconciler$Program", "keys", "[I", true)
  | 5 => ("RecordReconciler$Program", "amounts", "[I", true)
  | 6 => ("RecordReconciler$Program", "commands", "I", false)
  | _ => ("RecordReconciler$Program", "position", "I", false)
def tt7 : Nat → FieldType := fun k => match k with
  | 0 => .array .char
  | 1 => .int
  | 2 => .array .int
  | 3 => .array .char
  | 4 => .array .int
  | 5 => .array .int
  | 6 => .int
  | _ => .int
theorem nn7 : ∀ a, a < 8 → ∀ b, b < 8 → a ≠ b → (TT7 a).2.1 ≠ (TT7 b).2.1 := by decide +kernel
theorem tt7_ok : ∀ k, k < 8 → parseFieldDescriptor (TT7 k).2.2.1 = some (tt7 k) := by decide +kernel
def RR8 : String := "RecordReconciler"
def TT8 : u_T := fun k => match k with
  | 0 => ("RecordReconciler", "book", "LRecordReconciler$Book;", true)
  | 1 => ("RecordReconciler", "beforeRun", "LRecordReconciler$Book;", true)
  | 2 => ("RecordReconciler", "saved", "LRecordReconciler$Book;", true)
  | 3 => ("RecordReconciler", "history", "LRecordReconciler$History;", true)
  | 4 => ("RecordReconciler", "program", "LRecordReconciler$Program;", true)
  | 5 => ("RecordReconciler", "matching", "LRecordReconciler$Matching;", true)
  | 6 => ("RecordReconciler", "groups", "LRecordReconciler$Groups;", true)
  | 7 => ("RecordReconciler", "line", "Ljava/lang/StringBuilder;", true)
  | 8 => ("RecordReconciler", "hasSaved", "Z", false)
  | 9 => ("RecordReconciler", "errorAt", "I", false)
  | _ => ("RecordReconciler", "failedAt", "I", false)
def tt8 : Nat → FieldType := fun k => match k with
  | 0 => .object "RecordReconciler$Book"
  | 1 => .object "RecordReconciler$Book"
  | 2 => .object "RecordReconciler$Book"
  | 3 => .object "RecordReconciler$History"
  | 4 => .object "RecordReconciler$Program"
  | 5 => .object "RecordReconciler$Matching"
  | 6 => .object "RecordReconciler$Groups"
  | 7 => .object "java/lang/StringBuilder"
  | 8 => .boolean
  | 9 => .int
  | _ => .int
theorem nn8 : ∀ a, a < 11 → ∀ b, b < 11 → a ≠ b → (TT8 a).2.1 ≠ (TT8 b).2.1 := by decide +kernel
theorem tt8_ok : ∀ k, k < 11 → parseFieldDescriptor (TT8 k).2.2.1 = some (tt8 k) := by decide +kernel
def RR9 : String := "java/lang/String"
def TT9 : u_T := fun k => match k with
  | 0 => ("java/lang/String", "value", "[B", true)
  | 1 => ("java/lang/String", "coder", "B", true)
  | 2 => ("java/lang/String", "hash", "I", false)
  | _ => ("java/lang/String", "hashIsZero", "Z", false)
def tt9 : Nat → FieldType := fun k => match k with
  | 0 => .array .byte
  | 1 => .byte
  | 2 => .int
  | _ => .boolean
theorem nn9 : ∀ a, a < 4 → ∀ b, b < 4 → a ≠ b → (TT9 a).2.1 ≠ (TT9 b).2.1 := by decide +kernel
theorem tt9_ok : ∀ k, k < 4 → parseFieldDescriptor (TT9 k).2.2.1 = some (tt9 k) := by decide +kernel
def RR10 : String := "java/lang/StringBuilder"
def TT10 : u_T := fun k => match k with
  | 0 => ("java/lang/AbstractStringBuilder", "value", "[B", false)
  | 1 => ("java/lang/AbstractStringBuilder", "coder", "B", false)
  | 2 => ("java/lang/AbstractStringBuilder", "maybeLatin1", "Z", false)
  | _ => ("java/lang/AbstractStringBuilder", "count", "I", false)
def tt10 : Nat → FieldType := fun k => match k with
  | 0 => .array .byte
  | 1 => .byte
  | 2 => .boolean
  | _ => .int
theorem nn10 : ∀ a, a < 4 → ∀ b, b < 4 → a ≠ b → (TT10 a).2.1 ≠ (TT10 b).2.1 := by decide +kernel
theorem tt10_ok : ∀ k, k < 4 → parseFieldDescriptor (TT10 k).2.2.1 = some (tt10 k) := by decide +kernel
abbrev clL : List vw_C := [(RR1, TT1, 4), (RR2, TT2, 5), (RR3, TT3, 4), (RR4, TT4, 3), (RR5, TT5, 5), (RR6, TT6, 9), (RR7, TT7, 8), (RR8, TT8, 11), (RR9, TT9, 4), (RR10, TT10, 4)]
def lw_x : List MethodName := [⟨"java/lang/AbstractStringBuilder", "newCapacity", "(I)I"⟩, ⟨"java/lang/AbstractStringBuilder", "ensureCapacityInternal", "(I)V"⟩, ⟨"java/lang/AbstractStringBuilder", "inflateIfNeededFor", "(Ljava/lang/String;)V"⟩, ⟨"java/lang/AbstractStringBuilder", "putStringAt", "(ILjava/lang/String;)V"⟩]
def TBL : List Cond := lw_x.map (fun q => Cond.selects "java/lang/StringBuilder" q q) ++ lw_tbl
def TTT : List (Nat → FieldType) := [tt1, tt2, tt3, tt4, tt5, tt6, tt7, tt8, tt9, tt10]
def cnA : List String := ["RecordReconciler", "RecordReconciler$Batch", "RecordReconciler$Book", "RecordReconciler$Groups", "RecordReconciler$History", "RecordReconciler$KeyTable", "RecordReconciler$Matching", "RecordReconciler$Program", "RecordReconcilerLaw", "RecordReconcilerModel", "java/lang/AbstractStringBuilder", "java/lang/Integer", "java/lang/String", "java/lang/StringBuilder", "java/lang/StringLatin1", "java/util/Arrays", "jdk/internal/util/ArraysSupport", "jdk/internal/util/Preconditions"]
def cn (o : Nat) : String := nth2 "" cnA o
noncomputable def ynA : List (List (MethodName)) := [[⟨"RecordReconciler$KeyTable", "<init>", "()V"⟩, ⟨"RecordReconciler$Batch", "<init>", "()V"⟩, ⟨"RecordReconciler$Book", "<init>", "()V"⟩, ⟨"RecordReconciler$History", "<init>", "()V"⟩, ⟨"RecordReconciler$Program", "<init>", "()V"⟩, ⟨"RecordReconciler$Matching", "<init>", "()V"⟩, ⟨"RecordReconciler$Groups", "<init>", "()V"⟩, ⟨"java/lang/AbstractStringBuilder", "<init>", "(I)V"⟩, ⟨"java/lang/StringBuilder", "<init>", "()V"⟩, ⟨"RecordReconciler", "<init>", "()V"⟩, ⟨"RecordReconciler", "isKey", "(I)Z"⟩, ⟨"RecordReconciler", "requireKey", "(I)V"⟩, ⟨"RecordReconciler$KeyTable", "rowOf", "(I)I"⟩, ⟨"RecordReconciler", "requireRow", "(I)I"⟩, ⟨"RecordReconciler$KeyTable", "votesFor", "(II)I"⟩, ⟨"RecordReconciler$KeyTable", "acceptedAt", "(I)I"⟩],
  [⟨"RecordReconciler", "acceptedAmount", "(I)I"⟩, ⟨"RecordReconciler", "acceptedTotal", "()I"⟩, ⟨"RecordReconciler", "indexOf", "(C)I"⟩, ⟨"RecordReconciler", "requireSource", "(C)I"⟩, ⟨"RecordReconciler$KeyTable", "rowOfRecord", "(II)I"⟩, ⟨"RecordReconciler", "requireRecord", "(CI)I"⟩, ⟨"RecordReconciler", "amountOf", "(CI)I"⟩, ⟨"RecordReconciler", "isKey", "(I)Z"⟩, ⟨"RecordReconciler", "isKey", "(I)Z"⟩, ⟨"RecordReconciler$Batch", "previousOf", "(I)I"⟩, ⟨"RecordReconciler$KeyTable", "amountFor", "(II)I"⟩, ⟨"RecordReconciler$Book", "outcomeAt", "(I)C"⟩, ⟨"RecordReconciler$Book", "hasRoomForBatch", "()Z"⟩, ⟨"RecordReconciler", "canClose", "()Z"⟩, ⟨"RecordReconciler$Book", "isAmount", "(I)Z"⟩, ⟨"RecordReconciler$Batch", "latest", "(III)I"⟩],
  [⟨"RecordReconciler$KeyTable", "holdersAt", "(I)I"⟩, ⟨"RecordReconciler$KeyTable", "statusAt", "(I)C"⟩, ⟨"RecordReconciler$Book", "settleFault", "(II)I"⟩, ⟨"RecordReconciler$Book", "faultOf", "(ICII)I"⟩, ⟨"RecordReconciler", "refuse", "(I)V"⟩, ⟨"RecordReconciler$KeyTable", "copyFrom", "(LRecordReconciler$KeyTable;)V"⟩, ⟨"RecordReconciler$Batch", "copyFrom", "(LRecordReconciler$Batch;)V"⟩, ⟨"RecordReconciler$Book", "copyFrom", "(LRecordReconciler$Book;)V"⟩, ⟨"RecordReconciler$History", "keep", "(LRecordReconciler$Book;)V"⟩, ⟨"RecordReconciler$Batch", "add", "(III)I"⟩, ⟨"RecordReconciler$Batch", "removeAt", "(I)I"⟩, ⟨"RecordReconciler$KeyTable", "copyRow", "(II)V"⟩, ⟨"RecordReconciler$KeyTable", "openRow", "(I)I"⟩, ⟨"RecordReconciler$KeyTable", "put", "(IIII)V"⟩, ⟨"RecordReconciler$Book", "openNextBatch", "()V"⟩, ⟨"RecordReconciler$Book", "countBatch", "()I"⟩],
  [⟨"RecordReconciler$Book", "forgetBatch", "()I"⟩, ⟨"RecordReconciler$KeyTable", "level", "(II)I"⟩, ⟨"RecordReconciler$Book", "settleFor", "(II)I"⟩, ⟨"RecordReconciler$KeyTable", "remove", "(II)V"⟩, ⟨"RecordReconciler$Book", "dropRecord", "(II)I"⟩, ⟨"RecordReconciler$Book", "carryOut", "(ICII)I"⟩, ⟨"RecordReconciler", "change", "(ICII)I"⟩, ⟨"RecordReconciler", "closeBatch", "()I"⟩, ⟨"RecordReconciler", "closedTotal", "()I"⟩, ⟨"RecordReconciler$KeyTable", "countWithStatus", "(C)I"⟩, ⟨"RecordReconciler", "confirmedCount", "()I"⟩, ⟨"RecordReconciler", "confirmedShare", "()F"⟩, ⟨"RecordReconciler", "correctionTotal", "()I"⟩, ⟨"RecordReconciler", "day", "()I"⟩, ⟨"RecordReconciler", "dayOf", "(CI)I"⟩, ⟨"RecordReconciler$KeyTable", "disputedRow", "(I)I"⟩],
  [⟨"RecordReconciler", "disputedAt", "(I)I"⟩, ⟨"RecordReconciler", "disputedCount", "()I"⟩, ⟨"RecordReconciler", "drop", "(CI)I"⟩, ⟨"RecordReconciler", "droppedTotal", "()I"⟩, ⟨"RecordReconciler", "duplicateTotal", "()I"⟩, ⟨"RecordReconciler", "errorPosition", "()I"⟩, ⟨"RecordReconciler", "executeProgram", "()I"⟩, ⟨"RecordReconciler", "failedCommand", "()I"⟩, ⟨"jdk/internal/util/ArraysSupport", "newLength", "(III)I"⟩, ⟨"java/lang/AbstractStringBuilder", "newCapacity", "(I)I"⟩, ⟨"java/util/Arrays", "copyOf", "([BI)[B"⟩, ⟨"java/lang/AbstractStringBuilder", "ensureCapacityInternal", "(I)V"⟩, ⟨"java/lang/AbstractStringBuilder", "isLatin1", "()Z"⟩, ⟨"java/lang/AbstractStringBuilder", "setLength", "(I)V"⟩, ⟨"java/lang/StringBuilder", "setLength", "(I)V"⟩, ⟨"java/lang/StringLatin1", "canEncode", "(C)Z"⟩],
  [⟨"java/lang/AbstractStringBuilder", "append", "(C)Ljava/lang/AbstractStringBuilder;"⟩, ⟨"java/lang/StringBuilder", "append", "(C)Ljava/lang/StringBuilder;"⟩, ⟨"RecordReconciler", "letterOf", "(I)C"⟩, ⟨"java/lang/Integer", "stringSize", "(I)I"⟩, ⟨"java/lang/Integer", "getChars", "(II[B)I"⟩, ⟨"java/lang/AbstractStringBuilder", "append", "(I)Ljava/lang/AbstractStringBuilder;"⟩, ⟨"java/lang/StringBuilder", "append", "(I)Ljava/lang/StringBuilder;"⟩, ⟨"java/lang/AbstractStringBuilder", "length", "()I"⟩, ⟨"java/lang/StringBuilder", "length", "()I"⟩, ⟨"RecordReconciler", "formatBatch", "()I"⟩, ⟨"java/lang/String", "coder", "()B"⟩, ⟨"java/lang/String", "length", "()I"⟩, ⟨"java/lang/AbstractStringBuilder", "inflateIfNeededFor", "(Ljava/lang/String;)V"⟩, ⟨"java/lang/String", "getBytes", "([BIB)V"⟩, ⟨"java/lang/AbstractStringBuilder", "putStringAt", "(ILjava/lang/String;)V"⟩, ⟨"java/lang/AbstractStringBuilder", "append", "(Ljava/lang/String;)Ljava/lang/AbstractStringBuilder;"⟩],
  [⟨"java/lang/StringBuilder", "append", "(Ljava/lang/String;)Ljava/lang/StringBuilder;"⟩, ⟨"RecordReconciler", "formatKey", "(I)I"⟩, ⟨"RecordReconciler", "formatRecord", "(CI)I"⟩, ⟨"RecordReconciler$KeyTable", "isPossible", "(IIII)Z"⟩, ⟨"RecordReconciler$KeyTable", "areLinked", "(II)Z"⟩, ⟨"RecordReconciler$Groups", "load", "(LRecordReconciler$KeyTable;)V"⟩, ⟨"RecordReconciler$Groups", "rootOf", "(I)I"⟩, ⟨"RecordReconciler$Groups", "unite", "(II)Z"⟩, ⟨"RecordReconciler$Groups", "countByUniting", "()I"⟩, ⟨"RecordReconciler", "groupCount", "()I"⟩, ⟨"RecordReconciler$Groups", "reachedFrom", "(I)I"⟩, ⟨"RecordReconciler$Groups", "countBySearching", "()I"⟩, ⟨"RecordReconciler", "groupCountBySearch", "()I"⟩, ⟨"RecordReconciler$KeyTable", "recordsIn", "(I)I"⟩, ⟨"RecordReconciler", "groupSize", "(CI)I"⟩, ⟨"RecordReconciler", "hasRecord", "(CI)Z"⟩],
  [⟨"RecordReconciler$Matching", "load", "(LRecordReconciler$KeyTable;II)V"⟩, ⟨"RecordReconciler$Matching", "matchBackFrom", "(I)V"⟩, ⟨"RecordReconciler$Matching", "findMateFor", "(I)Z"⟩, ⟨"RecordReconciler$Matching", "growOneByOne", "()I"⟩, ⟨"RecordReconciler", "sizeOneByOne", "(II)I"⟩, ⟨"RecordReconciler$Matching", "layOutNext", "(II)I"⟩, ⟨"RecordReconciler$Matching", "layOut", "()Z"⟩, ⟨"RecordReconciler$Matching", "nextTry", "(I)I"⟩, ⟨"RecordReconciler$Matching", "descendFrom", "(I)Z"⟩, ⟨"RecordReconciler$Matching", "growInRounds", "()I"⟩, ⟨"RecordReconciler", "sizeInRounds", "(II)I"⟩, ⟨"RecordReconciler", "isConsistent", "()Z"⟩, ⟨"RecordReconciler", "requireOther", "(CC)I"⟩, ⟨"RecordReconciler$Matching", "leaveOut", "(I)V"⟩, ⟨"RecordReconciler", "isNeeded", "(CIC)Z"⟩, ⟨"RecordReconciler", "isPossiblePair", "(CICI)Z"⟩],
  [⟨"RecordReconciler$KeyTable", "rowAt", "(II)I"⟩, ⟨"RecordReconciler", "keyAt", "(CI)I"⟩, ⟨"jdk/internal/util/Preconditions", "checkIndex", "(IILjava/util/function/BiFunction;)I"⟩, ⟨"java/lang/String", "checkIndex", "(II)V"⟩, ⟨"java/lang/AbstractStringBuilder", "charAt", "(I)C"⟩, ⟨"java/lang/StringBuilder", "charAt", "(I)C"⟩, ⟨"RecordReconciler", "lineChar", "(I)C"⟩, ⟨"RecordReconciler", "matchingSize", "(CC)I"⟩, ⟨"RecordReconciler", "matchingSizeByLayers", "(CC)I"⟩, ⟨"RecordReconciler$KeyTable", "sumOf", "(I)I"⟩, ⟨"RecordReconciler", "meanAmount", "()D"⟩, ⟨"RecordReconciler", "mostTrusted", "()C"⟩, ⟨"RecordReconciler", "newTotal", "()I"⟩, ⟨"RecordReconciler$KeyTable", "oldestRow", "(I)I"⟩, ⟨"RecordReconciler", "oldestKey", "(C)I"⟩, ⟨"RecordReconciler", "openCount", "()I"⟩],
  [⟨"RecordReconciler", "requireReport", "(I)V"⟩, ⟨"RecordReconciler", "outcomeOf", "(I)C"⟩, ⟨"RecordReconciler", "pass", "(I)I"⟩, ⟨"java/lang/Integer", "bitCount", "(I)I"⟩, ⟨"RecordReconciler$Matching", "pairCount", "()I"⟩, ⟨"RecordReconciler", "possiblePairs", "(CC)I"⟩, ⟨"RecordReconciler", "recordCount", "()I"⟩, ⟨"RecordReconciler$KeyTable", "countOf", "(I)I"⟩, ⟨"RecordReconciler", "recordsOf", "(C)I"⟩, ⟨"RecordReconciler", "rejectBatch", "()I"⟩, ⟨"RecordReconciler", "rejectedTotal", "()I"⟩, ⟨"RecordReconciler", "report", "(CII)I"⟩, ⟨"RecordReconciler", "reportAmount", "(I)I"⟩, ⟨"RecordReconciler", "reportCount", "()I"⟩, ⟨"RecordReconciler", "reportKey", "(I)I"⟩, ⟨"RecordReconciler", "reportSource", "(I)C"⟩],
  [⟨"RecordReconciler", "restore", "()I"⟩, ⟨"RecordReconciler$Program", "keywordOf", "(I)Ljava/lang/String;"⟩, ⟨"java/lang/String", "isLatin1", "()Z"⟩, ⟨"java/lang/StringLatin1", "charAt", "([BI)C"⟩, ⟨"java/lang/String", "charAt", "(I)C"⟩, ⟨"RecordReconciler$Program", "commonLength", "(Ljava/lang/String;)I"⟩, ⟨"RecordReconciler$Program", "readKeyword", "()I"⟩, ⟨"RecordReconciler$Program", "readSource", "(I)Z"⟩, ⟨"RecordReconciler$Program", "readNumber", "(I)I"⟩, ⟨"RecordReconciler$Program", "readKey", "(I)Z"⟩, ⟨"RecordReconciler$Program", "skip", "(C)Z"⟩, ⟨"RecordReconciler$Program", "readAmount", "(I)Z"⟩, ⟨"RecordReconciler$Program", "readCommand", "(I)Z"⟩, ⟨"RecordReconciler$Program", "parse", "()I"⟩, ⟨"RecordReconciler", "run", "()I"⟩, ⟨"RecordReconciler", "save", "()I"⟩],
  [⟨"RecordReconciler", "settle", "(CI)I"⟩, ⟨"RecordReconciler", "settledTotal", "()I"⟩, ⟨"RecordReconciler", "statusOf", "(I)C"⟩, ⟨"RecordReconciler", "totalOf", "(C)I"⟩, ⟨"RecordReconciler", "trustOf", "(C)I"⟩, ⟨"RecordReconciler", "isKey", "(I)Z"⟩, ⟨"RecordReconciler", "isKey", "(I)Z"⟩, ⟨"RecordReconciler", "isKey", "(I)Z"⟩, ⟨"RecordReconciler", "withdraw", "(CII)I"⟩, ⟨"RecordReconcilerLaw", "cell", "([II)I"⟩, ⟨"RecordReconcilerLaw", "pick", "([III)I"⟩, ⟨"RecordReconcilerLaw", "source", "([II)C"⟩, ⟨"RecordReconcilerLaw", "told", "(Z)I"⟩, ⟨"RecordReconcilerLaw", "asked", "(LRecordReconciler;ICIC)I"⟩, ⟨"RecordReconcilerLaw", "ask", "(LRecordReconciler;ICIC)I"⟩, ⟨"RecordReconcilerLaw", "plain", "(LRecordReconciler;ICII)I"⟩],
  [⟨"RecordReconcilerLaw", "deed", "(LRecordReconciler;ICII)I"⟩, ⟨"RecordReconcilerLaw", "any", "(LRecordReconciler;[II)I"⟩, ⟨"RecordReconcilerLaw", "isPair", "(LRecordReconciler;CICI)Z"⟩, ⟨"RecordReconcilerLaw", "areGroupsRight", "(LRecordReconciler;)Z"⟩, ⟨"java/lang/AbstractStringBuilder", "getValue", "()[B"⟩, ⟨"java/util/Arrays", "checkLength", "(II)V"⟩, ⟨"java/util/Arrays", "copyOfRangeByte", "([BII)[B"⟩, ⟨"java/util/Arrays", "copyOfRange", "([BII)[B"⟩, ⟨"java/lang/String", "<init>", "(Ljava/lang/AbstractStringBuilder;Ljava/lang/Void;)V"⟩, ⟨"java/lang/String", "<init>", "(Ljava/lang/StringBuilder;)V"⟩, ⟨"java/lang/StringBuilder", "toString", "()Ljava/lang/String;"⟩, ⟨"RecordReconcilerLaw", "isLine", "(LRecordReconciler;ILjava/lang/String;)Z"⟩, ⟨"RecordReconcilerLaw", "areKeysRight", "(LRecordReconciler;)Z"⟩, ⟨"RecordReconcilerLaw", "grows", "([[ZI[I[Z)Z"⟩, ⟨"RecordReconcilerLaw", "grows", "([[ZI[I[Z)Z"⟩, ⟨"RecordReconcilerLaw", "grows", "([[ZI[I[Z)Z"⟩],
  [⟨"RecordReconcilerLaw", "grows", "([[ZI[I[Z)Z"⟩, ⟨"RecordReconcilerLaw", "grows", "([[ZI[I[Z)Z"⟩, ⟨"RecordReconcilerLaw", "grows", "([[ZI[I[Z)Z"⟩, ⟨"RecordReconcilerLaw", "grows", "([[ZI[I[Z)Z"⟩, ⟨"RecordReconcilerLaw", "grows", "([[ZI[I[Z)Z"⟩, ⟨"RecordReconcilerLaw", "grows", "([[ZI[I[Z)Z"⟩, ⟨"RecordReconcilerLaw", "grows", "([[ZI[I[Z)Z"⟩, ⟨"RecordReconcilerLaw", "grows", "([[ZI[I[Z)Z"⟩, ⟨"RecordReconcilerLaw", "grows", "([[ZI[I[Z)Z"⟩, ⟨"RecordReconcilerLaw", "grows", "([[ZI[I[Z)Z"⟩, ⟨"RecordReconcilerLaw", "grows", "([[ZI[I[Z)Z"⟩, ⟨"RecordReconcilerLaw", "grows", "([[ZI[I[Z)Z"⟩, ⟨"RecordReconcilerLaw", "grows", "([[ZI[I[Z)Z"⟩, ⟨"RecordReconcilerLaw", "grows", "([[ZI[I[Z)Z"⟩, ⟨"RecordReconcilerLaw", "grows", "([[ZI[I[Z)Z"⟩, ⟨"RecordReconcilerLaw", "grows", "([[ZI[I[Z)Z"⟩],
  [⟨"RecordReconcilerLaw", "grows", "([[ZI[I[Z)Z"⟩, ⟨"RecordReconcilerLaw", "grows", "([[ZI[I[Z)Z"⟩, ⟨"RecordReconcilerLaw", "grows", "([[ZI[I[Z)Z"⟩, ⟨"RecordReconcilerLaw", "grows", "([[ZI[I[Z)Z"⟩, ⟨"RecordReconcilerLaw", "grows", "([[ZI[I[Z)Z"⟩, ⟨"RecordReconcilerLaw", "grows", "([[ZI[I[Z)Z"⟩, ⟨"RecordReconcilerLaw", "grows", "([[ZI[I[Z)Z"⟩, ⟨"RecordReconcilerLaw", "grows", "([[ZI[I[Z)Z"⟩, ⟨"RecordReconcilerLaw", "grows", "([[ZI[I[Z)Z"⟩, ⟨"RecordReconcilerLaw", "grows", "([[ZI[I[Z)Z"⟩, ⟨"RecordReconcilerLaw", "grows", "([[ZI[I[Z)Z"⟩, ⟨"RecordReconcilerLaw", "grows", "([[ZI[I[Z)Z"⟩, ⟨"RecordReconcilerLaw", "grows", "([[ZI[I[Z)Z"⟩, ⟨"RecordReconcilerLaw", "grows", "([[ZI[I[Z)Z"⟩, ⟨"RecordReconcilerLaw", "size", "([[ZII)I"⟩, ⟨"RecordReconcilerLaw", "areMatchingsRight", "(LRecordReconciler;CC)Z"⟩],
  [⟨"RecordReconcilerLaw", "areRecordsRight", "(LRecordReconciler;)Z"⟩, ⟨"RecordReconcilerLaw", "looks", "(LRecordReconciler;)I"⟩, ⟨"RecordReconcilerLaw", "areReportsRight", "(LRecordReconciler;)Z"⟩, ⟨"RecordReconcilerLaw", "lay", "(LRecordReconciler;[I)V"⟩, ⟨"RecordReconciler", "isKey", "(I)Z"⟩, ⟨"RecordReconciler", "isKey", "(I)Z"⟩, ⟨"RecordReconciler", "isKey", "(I)Z"⟩, ⟨"RecordReconciler", "isKey", "(I)Z"⟩, ⟨"RecordReconciler", "isKey", "(I)Z"⟩, ⟨"RecordReconciler", "isKey", "(I)Z"⟩, ⟨"RecordReconciler", "isKey", "(I)Z"⟩, ⟨"RecordReconciler", "isKey", "(I)Z"⟩, ⟨"RecordReconciler", "isKey", "(I)Z"⟩, ⟨"RecordReconciler", "isKey", "(I)Z"⟩, ⟨"RecordReconciler", "isKey", "(I)Z"⟩, ⟨"RecordReconciler", "isKey", "(I)Z"⟩],
  [⟨"RecordReconciler", "isKey", "(I)Z"⟩, ⟨"RecordReconciler", "isKey", "(I)Z"⟩, ⟨"RecordReconciler", "isKey", "(I)Z"⟩, ⟨"RecordReconciler", "isKey", "(I)Z"⟩, ⟨"RecordReconciler", "isKey", "(I)Z"⟩, ⟨"RecordReconciler", "isKey", "(I)Z"⟩, ⟨"RecordReconciler", "isKey", "(I)Z"⟩, ⟨"RecordReconciler", "isKey", "(I)Z"⟩, ⟨"RecordReconciler", "isKey", "(I)Z"⟩, ⟨"RecordReconciler", "isKey", "(I)Z"⟩, ⟨"RecordReconciler", "isKey", "(I)Z"⟩, ⟨"RecordReconciler", "isKey", "(I)Z"⟩, ⟨"RecordReconciler", "isKey", "(I)Z"⟩, ⟨"RecordReconciler", "isKey", "(I)Z"⟩, ⟨"RecordReconciler", "isKey", "(I)Z"⟩, ⟨"RecordReconciler", "isKey", "(I)Z"⟩],
  [⟨"RecordReconciler", "isKey", "(I)Z"⟩, ⟨"RecordReconciler", "isKey", "(I)Z"⟩, ⟨"RecordReconciler", "isKey", "(I)Z"⟩, ⟨"RecordReconciler", "isKey", "(I)Z"⟩, ⟨"RecordReconciler", "isKey", "(I)Z"⟩, ⟨"RecordReconciler", "isKey", "(I)Z"⟩, ⟨"RecordReconciler", "isKey", "(I)Z"⟩, ⟨"RecordReconciler", "isKey", "(I)Z"⟩, ⟨"RecordReconciler", "isKey", "(I)Z"⟩, ⟨"RecordReconciler", "isKey", "(I)Z"⟩, ⟨"RecordReconciler", "isKey", "(I)Z"⟩, ⟨"RecordReconciler", "isKey", "(I)Z"⟩, ⟨"RecordReconciler", "isKey", "(I)Z"⟩, ⟨"RecordReconciler", "isKey", "(I)Z"⟩, ⟨"RecordReconciler", "isKey", "(I)Z"⟩, ⟨"RecordReconciler", "isKey", "(I)Z"⟩],
  [⟨"RecordReconciler", "isKey", "(I)Z"⟩, ⟨"RecordReconciler", "isKey", "(I)Z"⟩, ⟨"RecordReconciler", "isKey", "(I)Z"⟩, ⟨"RecordReconciler", "isKey", "(I)Z"⟩, ⟨"RecordReconciler", "isKey", "(I)Z"⟩, ⟨"RecordReconciler", "isKey", "(I)Z"⟩, ⟨"RecordReconciler", "isKey", "(I)Z"⟩, ⟨"RecordReconciler", "isKey", "(I)Z"⟩, ⟨"RecordReconciler", "isKey", "(I)Z"⟩, ⟨"RecordReconciler", "isKey", "(I)Z"⟩, ⟨"RecordReconciler", "isKey", "(I)Z"⟩, ⟨"RecordReconciler", "isKey", "(I)Z"⟩, ⟨"RecordReconciler", "isKey", "(I)Z"⟩, ⟨"RecordReconciler", "isKey", "(I)Z"⟩, ⟨"RecordReconciler", "isKey", "(I)Z"⟩, ⟨"RecordReconciler", "isKey", "(I)Z"⟩],
  [⟨"RecordReconciler", "isKey", "(I)Z"⟩, ⟨"RecordReconciler", "isKey", "(I)Z"⟩, ⟨"RecordReconciler", "isKey", "(I)Z"⟩, ⟨"RecordReconciler", "isKey", "(I)Z"⟩, ⟨"RecordReconciler", "isKey", "(I)Z"⟩, ⟨"RecordReconciler", "isKey", "(I)Z"⟩, ⟨"RecordReconciler", "isKey", "(I)Z"⟩, ⟨"RecordReconciler", "isKey", "(I)Z"⟩, ⟨"RecordReconciler", "isKey", "(I)Z"⟩, ⟨"RecordReconciler", "isKey", "(I)Z"⟩, ⟨"RecordReconciler", "isKey", "(I)Z"⟩, ⟨"RecordReconciler", "isKey", "(I)Z"⟩, ⟨"RecordReconciler", "isKey", "(I)Z"⟩, ⟨"RecordReconciler", "isKey", "(I)Z"⟩, ⟨"RecordReconciler", "isKey", "(I)Z"⟩, ⟨"RecordReconciler", "isKey", "(I)Z"⟩],
  [⟨"RecordReconciler", "isKey", "(I)Z"⟩, ⟨"RecordReconciler", "isKey", "(I)Z"⟩, ⟨"RecordReconciler", "isKey", "(I)Z"⟩, ⟨"RecordReconciler", "isKey", "(I)Z"⟩, ⟨"RecordReconciler", "isKey", "(I)Z"⟩, ⟨"RecordReconciler", "isKey", "(I)Z"⟩, ⟨"RecordReconciler", "isKey", "(I)Z"⟩, ⟨"RecordReconciler", "isKey", "(I)Z"⟩, ⟨"RecordReconciler", "isKey", "(I)Z"⟩, ⟨"RecordReconciler", "isKey", "(I)Z"⟩, ⟨"RecordReconciler", "isKey", "(I)Z"⟩, ⟨"RecordReconciler", "isKey", "(I)Z"⟩, ⟨"RecordReconciler", "isKey", "(I)Z"⟩, ⟨"RecordReconciler", "isKey", "(I)Z"⟩, ⟨"RecordReconciler", "isKey", "(I)Z"⟩, ⟨"RecordReconciler", "isKey", "(I)Z"⟩],
  [⟨"RecordReconciler", "isKey", "(I)Z"⟩, ⟨"RecordReconciler", "isKey", "(I)Z"⟩, ⟨"RecordReconciler", "isKey", "(I)Z"⟩, ⟨"RecordReconciler", "isKey", "(I)Z"⟩, ⟨"RecordReconciler", "isKey", "(I)Z"⟩, ⟨"RecordReconciler", "isKey", "(I)Z"⟩, ⟨"RecordReconciler", "isKey", "(I)Z"⟩, ⟨"RecordReconcilerLaw", "law", "([I)Z"⟩]]

noncomputable def ybA : List (List (ByteArray)) := [[prog_6_method_1_code, prog_2_method_1_code, prog_3_method_1_code, prog_5_method_1_code, prog_8_method_1_code, prog_7_method_1_code, prog_4_method_1_code, prog_12_method_2_code, prog_28_method_1_code, prog_1_method_1_code, prog_1_method_70_code, prog_1_method_73_code, prog_6_method_3_code, prog_1_method_75_code, prog_6_method_20_code, prog_6_method_19_code],
  [prog_1_method_30_code, prog_1_method_31_code, prog_1_method_68_code, prog_1_method_71_code, prog_6_method_4_code, prog_1_method_74_code, prog_1_method_21_code, prog_1_method_70_code, prog_1_method_70_code, prog_2_method_6_code, prog_6_method_5_code, prog_3_method_7_code, prog_3_method_8_code, prog_1_method_17_code, prog_3_method_4_code, prog_2_method_4_code],
  [prog_6_method_10_code, prog_6_method_16_code, prog_3_method_5_code, prog_3_method_3_code, prog_1_method_10_code, prog_6_method_2_code, prog_2_method_2_code, prog_3_method_2_code, prog_5_method_2_code, prog_2_method_3_code, prog_2_method_5_code, prog_6_method_8_code, prog_6_method_7_code, prog_6_method_6_code, prog_3_method_11_code, prog_3_method_9_code],
  [prog_3_method_10_code, prog_6_method_21_code, prog_3_method_12_code, prog_6_method_9_code, prog_3_method_13_code, prog_3_method_6_code, prog_1_method_9_code, prog_1_method_4_code, prog_1_method_49_code, prog_6_method_17_code, prog_1_method_26_code, prog_1_method_53_code, prog_1_method_46_code, prog_1_method_11_code, prog_1_method_22_code, prog_6_method_18_code],
  [prog_1_method_29_code, prog_1_method_27_code, prog_1_method_7_code, prog_1_method_48_code, prog_1_method_45_code, prog_1_method_62_code, prog_1_method_61_code, prog_1_method_63_code, prog_38_method_27_code, prog_12_method_10_code, prog_36_method_121_code, prog_12_method_9_code, prog_12_method_68_code, prog_12_method_13_code, prog_28_method_89_code, prog_30_method_3_code],
  [prog_12_method_31_code, prog_28_method_14_code, prog_1_method_69_code, prog_23_method_13_code, prog_23_method_12_code, prog_12_method_32_code, prog_28_method_15_code, prog_12_method_6_code, prog_28_method_93_code, prog_1_method_57_code, prog_27_method_152_code, prog_27_method_54_code, prog_12_method_71_code, prog_27_method_147_code, prog_12_method_73_code, prog_12_method_22_code],
  [prog_28_method_7_code, prog_1_method_56_code, prog_1_method_55_code, prog_6_method_22_code, prog_6_method_23_code, prog_4_method_2_code, prog_4_method_5_code, prog_4_method_4_code, prog_4_method_3_code, prog_1_method_40_code, prog_4_method_7_code, prog_4_method_6_code, prog_1_method_41_code, prog_6_method_13_code, prog_1_method_42_code, prog_1_method_20_code],
  [prog_7_method_2_code, prog_7_method_7_code, prog_7_method_6_code, prog_7_method_5_code, prog_1_method_38_code, prog_7_method_10_code, prog_7_method_9_code, prog_7_method_12_code, prog_7_method_11_code, prog_7_method_8_code, prog_1_method_39_code, prog_1_method_54_code, prog_1_method_72_code, prog_7_method_3_code, prog_1_method_37_code, prog_1_method_33_code],
  [prog_6_method_14_code, prog_1_method_23_code, prog_39_method_11_code, prog_27_method_155_code, prog_12_method_14_code, prog_28_method_88_code, prog_1_method_58_code, prog_1_method_35_code, prog_1_method_36_code, prog_6_method_12_code, prog_1_method_52_code, prog_1_method_44_code, prog_1_method_47_code, prog_6_method_15_code, prog_1_method_24_code, prog_1_method_28_code],
  [prog_1_method_76_code, prog_1_method_16_code, prog_1_method_8_code, prog_23_method_49_code, prog_7_method_4_code, prog_1_method_34_code, prog_1_method_18_code, prog_6_method_11_code, prog_1_method_19_code, prog_1_method_5_code, prog_1_method_50_code, prog_1_method_2_code, prog_1_method_15_code, prog_1_method_12_code, prog_1_method_14_code, prog_1_method_13_code],
  [prog_1_method_67_code, prog_8_method_6_code, prog_27_method_154_code, prog_30_method_2_code, prog_27_method_56_code, prog_8_method_7_code, prog_8_method_5_code, prog_8_method_9_code, prog_8_method_12_code, prog_8_method_10_code, prog_8_method_8_code, prog_8_method_11_code, prog_8_method_4_code, prog_8_method_3_code, prog_1_method_60_code, prog_1_method_66_code],
  [prog_1_method_6_code, prog_1_method_51_code, prog_1_method_25_code, prog_1_method_32_code, prog_1_method_43_code, prog_1_method_70_code, prog_1_method_70_code, prog_1_method_70_code, prog_1_method_3_code, method_2_code, method_3_code, method_9_code, method_4_code, method_7_code, method_8_code, method_5_code],
  [method_6_code, method_11_code, method_16_code, method_20_code, prog_12_method_64_code, prog_36_method_131_code, prog_36_method_133_code, prog_36_method_132_code, prog_27_method_150_code, prog_27_method_53_code, prog_28_method_42_code, method_13_code, method_15_code, method_17_code, method_17_code, method_17_code],
  [method_17_code, method_17_code, method_17_code, method_17_code, method_17_code, method_17_code, method_17_code, method_17_code, method_17_code, method_17_code, method_17_code, method_17_code, method_17_code, method_17_code, method_17_code, method_17_code],
  [method_17_code, method_17_code, method_17_code, method_17_code, method_17_code, method_17_code, method_17_code, method_17_code, method_17_code, method_17_code, method_17_code, method_17_code, method_17_code, method_17_code, method_18_code, method_19_code],
  [method_14_code, method_12_code, method_21_code, method_10_code, prog_1_method_70_code, prog_1_method_70_code, prog_1_method_70_code, prog_1_method_70_code, prog_1_method_70_code, prog_1_method_70_code, prog_1_method_70_code, prog_1_method_70_code, prog_1_method_70_code, prog_1_method_70_code, prog_1_method_70_code, prog_1_method_70_code],
  [prog_1_method_70_code, prog_1_method_70_code, prog_1_method_70_code, prog_1_method_70_code, prog_1_method_70_code, prog_1_method_70_code, prog_1_method_70_code, prog_1_method_70_code, prog_1_method_70_code, prog_1_method_70_code, prog_1_method_70_code, prog_1_method_70_code, prog_1_method_70_code, prog_1_method_70_code, prog_1_method_70_code, prog_1_method_70_code],
  [prog_1_method_70_code, prog_1_method_70_code, prog_1_method_70_code, prog_1_method_70_code, prog_1_method_70_code, prog_1_method_70_code, prog_1_method_70_code, prog_1_method_70_code, prog_1_method_70_code, prog_1_method_70_code, prog_1_method_70_code, prog_1_method_70_code, prog_1_method_70_code, prog_1_method_70_code, prog_1_method_70_code, prog_1_method_70_code],
  [prog_1_method_70_code, prog_1_method_70_code, prog_1_method_70_code, prog_1_method_70_code, prog_1_method_70_code, prog_1_method_70_code, prog_1_method_70_code, prog_1_method_70_code, prog_1_method_70_code, prog_1_method_70_code, prog_1_method_70_code, prog_1_method_70_code, prog_1_method_70_code, prog_1_method_70_code, prog_1_method_70_code, prog_1_method_70_code],
  [prog_1_method_70_code, prog_1_method_70_code, prog_1_method_70_code, prog_1_method_70_code, prog_1_method_70_code, prog_1_method_70_code, prog_1_method_70_code, prog_1_method_70_code, prog_1_method_70_code, prog_1_method_70_code, prog_1_method_70_code, prog_1_method_70_code, prog_1_method_70_code, prog_1_method_70_code, prog_1_method_70_code, prog_1_method_70_code],
  [prog_1_method_70_code, prog_1_method_70_code, prog_1_method_70_code, prog_1_method_70_code, prog_1_method_70_code, prog_1_method_70_code, prog_1_method_70_code, prog_1_method_70_code, prog_1_method_70_code, prog_1_method_70_code, prog_1_method_70_code, prog_1_method_70_code, prog_1_method_70_code, prog_1_method_70_code, prog_1_method_70_code, prog_1_method_70_code],
  [prog_1_method_70_code, prog_1_method_70_code, prog_1_method_70_code, prog_1_method_70_code, prog_1_method_70_code, prog_1_method_70_code, prog_1_method_70_code, code]]

noncomputable def yrA : List (List (Option FieldType)) := [[none, none, none, none, none, none, none, none, none, none, (some .boolean), none, (some .int), (some .int), (some .int), (some .int)],
  [(some .int), (some .int), (some .int), (some .int), (some .int), (some .int), (some .int), (some .boolean), (some .boolean), (some .int), (some .int), (some .char), (some .boolean), (some .boolean), (some .boolean), (some .int)],
  [(some .int), (some .char), (some .int), (some .int), none, none, none, none, none, (some .int), (some .int), none, (some .int), none, none, (some .int)],
  [(some .int), (some .int), (some .int), none, (some .int), (some .int), (some .int), (some .int), (some .int), (some .int), (some .int), (some .float), (some .int), (some .int), (some .int), (some .int)],
  [(some .int), (some .int), (some .int), (some .int), (some .int), (some .int), (some .int), (some .int), (some .int), (some .int), (some (.array .byte)), none, (some .boolean), none, none, (some .boolean)],
  [(some (.object "java/lang/AbstractStringBuilder")), (some (.object "java/lang/StringBuilder")), (some .char), (some .int), (some .int), (some (.object "java/lang/AbstractStringBuilder")), (some (.object "java/lang/StringBuilder")), (some .int), (some .int), (some .int), (some .byte), (some .int), none, none, none, (some (.object "java/lang/AbstractStringBuilder"))],
  [(some (.object "java/lang/StringBuilder")), (some .int), (some .int), (some .boolean), (some .boolean), none, (some .int), (some .boolean), (some .int), (some .int), (some .int), (some .int), (some .int), (some .int), (some .int), (some .boolean)],
  [none, none, (some .boolean), (some .int), (some .int), (some .int), (some .boolean), (some .int), (some .boolean), (some .int), (some .int), (some .boolean), (some .int), none, (some .boolean), (some .boolean)],
  [(some .int), (some .int), (some .int), none, (some .char), (some .char), (some .char), (some .int), (some .int), (some .int), (some .double), (some .char), (some .int), (some .int), (some .int), (some .int)],
  [none, (some .char), (some .int), (some .int), (some .int), (some .int), (some .int), (some .int), (some .int), (some .int), (some .int), (some .int), (some .int), (some .int), (some .int), (some .char)],
  [(some .int), (some (.object "java/lang/String")), (some .boolean), (some .char), (some .char), (some .int), (some .int), (some .boolean), (some .int), (some .boolean), (some .boolean), (some .boolean), (some .boolean), (some .int), (some .int), (some .int)],
  [(some .int), (some .int), (some .char), (some .int), (some .int), (some .boolean), (some .boolean), (some .boolean), (some .int), (some .int), (some .int), (some .char), (some .int), (some .int), (some .int), (some .int)],
  [(some .int), (some .int), (some .boolean), (some .boolean), (some (.array .byte)), none, (some (.array .byte)), (some (.array .byte)), none, none, (some (.object "java/lang/String")), (some .boolean), (some .boolean), (some .boolean), (some .boolean), (some .boolean)],
  [(some .boolean), (some .boolean), (some .boolean), (some .boolean), (some .boolean), (some .boolean), (some .boolean), (some .boolean), (some .boolean), (some .boolean), (some .boolean), (some .boolean), (some .boolean), (some .boolean), (some .boolean), (some .boolean)],
  [(some .boolean), (some .boolean), (some .boolean), (some .boolean), (some .boolean), (some .boolean), (some .boolean), (some .boolean), (some .boolean), (some .boolean), (some .boolean), (some .boolean), (some .boolean), (some .boolean), (some .int), (some .boolean)],
  [(some .boolean), (some .int), (some .boolean), none, (some .boolean), (some .boolean), (some .boolean), (some .boolean), (some .boolean), (some .boolean), (some .boolean), (some .boolean), (some .boolean), (some .boolean), (some .boolean), (some .boolean)],
  [(some .boolean), (some .boolean), (some .boolean), (some .boolean), (some .boolean), (some .boolean), (some .boolean), (some .boolean), (some .boolean), (some .boolean), (some .boolean), (some .boolean), (some .boolean), (some .boolean), (some .boolean), (some .boolean)],
  [(some .boolean), (some .boolean), (some .boolean), (some .boolean), (some .boolean), (some .boolean), (some .boolean), (some .boolean), (some .boolean), (some .boolean), (some .boolean), (some .boolean), (some .boolean), (some .boolean), (some .boolean), (some .boolean)],
  [(some .boolean), (some .boolean), (some .boolean), (some .boolean), (some .boolean), (some .boolean), (some .boolean), (some .boolean), (some .boolean), (some .boolean), (some .boolean), (some .boolean), (some .boolean), (some .boolean), (some .boolean), (some .boolean)],
  [(some .boolean), (some .boolean), (some .boolean), (some .boolean), (some .boolean), (some .boolean), (some .boolean), (some .boolean), (some .boolean), (some .boolean), (some .boolean), (some .boolean), (some .boolean), (some .boolean), (some .boolean), (some .boolean)],
  [(some .boolean), (some .boolean), (some .boolean), (some .boolean), (some .boolean), (some .boolean), (some .boolean), (some .boolean), (some .boolean), (some .boolean), (some .boolean), (some .boolean), (some .boolean), (some .boolean), (some .boolean), (some .boolean)],
  [(some .boolean), (some .boolean), (some .boolean), (some .boolean), (some .boolean), (some .boolean), (some .boolean), (some .boolean)]]

noncomputable def yoA : List (List (Nat)) := [[5, 1, 2, 4, 7, 6, 3, 10, 13, 0, 0, 0, 5, 0, 5, 5],
  [0, 0, 0, 0, 5, 0, 0, 0, 0, 1, 5, 2, 2, 0, 2, 1],
  [5, 5, 2, 2, 0, 5, 1, 2, 4, 1, 1, 5, 5, 5, 2, 2],
  [2, 5, 2, 5, 2, 2, 0, 0, 0, 5, 0, 0, 0, 0, 0, 5],
  [0, 0, 0, 0, 0, 0, 0, 0, 16, 10, 15, 10, 10, 10, 13, 14],
  [10, 13, 0, 11, 11, 10, 13, 10, 13, 0, 12, 12, 10, 12, 10, 10],
  [13, 0, 0, 5, 5, 3, 3, 3, 3, 0, 3, 3, 0, 5, 0, 0],
  [6, 6, 6, 6, 0, 6, 6, 6, 6, 6, 0, 0, 0, 6, 0, 0],
  [5, 0, 17, 12, 10, 13, 0, 0, 0, 5, 0, 0, 0, 5, 0, 0],
  [0, 0, 0, 11, 6, 0, 0, 5, 0, 0, 0, 0, 0, 0, 0, 0],
  [0, 7, 12, 14, 12, 7, 7, 7, 7, 7, 7, 7, 7, 7, 0, 0],
  [0, 0, 0, 0, 0, 0, 0, 0, 0, 8, 8, 8, 8, 8, 8, 8],
  [8, 8, 8, 8, 10, 15, 15, 15, 12, 12, 13, 8, 8, 8, 8, 8],
  [8, 8, 8, 8, 8, 8, 8, 8, 8, 8, 8, 8, 8, 8, 8, 8],
  [8, 8, 8, 8, 8, 8, 8, 8, 8, 8, 8, 8, 8, 8, 8, 8],
  [8, 8, 8, 8, 0, 0, 0, 0, 0, 0, 0, 0, 0, 0, 0, 0],
  [0, 0, 0, 0, 0, 0, 0, 0, 0, 0, 0, 0, 0, 0, 0, 0],
  [0, 0, 0, 0, 0, 0, 0, 0, 0, 0, 0, 0, 0, 0, 0, 0],
  [0, 0, 0, 0, 0, 0, 0, 0, 0, 0, 0, 0, 0, 0, 0, 0],
  [0, 0, 0, 0, 0, 0, 0, 0, 0, 0, 0, 0, 0, 0, 0, 0],
  [0, 0, 0, 0, 0, 0, 0, 0, 0, 0, 0, 0, 0, 0, 0, 0],
  [0, 0, 0, 0, 0, 0, 0, 8]]

noncomputable def npA : List (List (Nat)) := [[0, 0, 0, 0, 0, 0, 0, 1, 0, 0, 1, 1, 1, 1, 2, 1],
  [1, 0, 1, 1, 2, 2, 2, 1, 1, 1, 2, 1, 0, 0, 1, 3],
  [1, 1, 2, 4, 1, 1, 1, 1, 1, 3, 1, 2, 1, 4, 0, 0],
  [0, 2, 2, 2, 2, 4, 4, 0, 0, 1, 0, 0, 0, 0, 2, 1],
  [1, 0, 2, 0, 0, 0, 0, 0, 3, 1, 2, 1, 0, 1, 1, 1],
  [1, 1, 1, 1, 3, 1, 1, 0, 0, 0, 0, 0, 1, 3, 2, 1],
  [1, 1, 2, 4, 2, 1, 1, 2, 0, 0, 1, 0, 0, 1, 2, 2],
  [3, 1, 1, 0, 2, 2, 0, 1, 1, 0, 2, 0, 2, 1, 3, 4],
  [2, 2, 3, 2, 1, 1, 1, 2, 2, 1, 0, 0, 0, 1, 1, 0],
  [1, 1, 1, 1, 0, 2, 0, 1, 1, 0, 0, 3, 1, 0, 1, 1],
  [0, 1, 0, 2, 1, 1, 0, 1, 1, 1, 1, 1, 1, 0, 0, 0],
  [2, 0, 1, 1, 1, 1, 1, 1, 3, 2, 3, 2, 1, 5, 5, 5],
  [5, 3, 5, 1, 0, 2, 3, 3, 2, 1, 0, 3, 1, 4, 4, 4],
  [4, 4, 4, 4, 4, 4, 4, 4, 4, 4, 4, 4, 4, 4, 4, 4],
  [4, 4, 4, 4, 4, 4, 4, 4, 4, 4, 4, 4, 4, 4, 3, 3],
  [1, 1, 1, 2, 1, 1, 1, 1, 1, 1, 1, 1, 1, 1, 1, 1],
  [1, 1, 1, 1, 1, 1, 1, 1, 1, 1, 1, 1, 1, 1, 1, 1],
  [1, 1, 1, 1, 1, 1, 1, 1, 1, 1, 1, 1, 1, 1, 1, 1],
  [1, 1, 1, 1, 1, 1, 1, 1, 1, 1, 1, 1, 1, 1, 1, 1],
  [1, 1, 1, 1, 1, 1, 1, 1, 1, 1, 1, 1, 1, 1, 1, 1],
  [1, 1, 1, 1, 1, 1, 1, 1, 1, 1, 1, 1, 1, 1, 1, 1],
  [1, 1, 1, 1, 1, 1, 1, 1]]

noncomputable def hhA : List (List (List (Nat × Nat × Nat × Nat))) := [[[], [], [], [], [], [], [], [], [], [], [], [], [], [], [], []],
  [[], [], [], [], [], [], [], [], [], [], [], [], [], [], [], []],
  [[], [], [], [], [], [], [], [], [], [], [], [], [], [], [], []],
  [[], [], [], [], [], [], [], [], [], [], [], [], [], [], [], []],
  [[], [], [], [], [], [], [], [], [], [], [], [], [], [], [], []],
  [[], [], [], [], [], [], [], [], [], [], [], [], [], [], [], []],
  [[], [], [], [], [], [], [], [], [], [], [], [], [], [], [], []],
  [[], [], [], [], [], [], [], [], [], [], [], [], [], [], [], []],
  [[], [], [], [], [], [], [], [], [], [], [], [], [], [], [], []],
  [[], [], [], [], [], [], [], [], [], [], [], [], [], [], [], []],
  [[], [], [], [], [], [], [], [], [], [], [], [], [], [], [], []],
  [[], [], [], [], [], [], [], [], [], [], [], [], [], [], [(0, 9, 10, 106), (0, 9, 16, 49), (0, 9, 22, 53)], []],
  [[(0, 9, 10, 49), (0, 9, 16, 51), (0, 9, 22, 53)], [], [], [], [], [], [], [], [], [], [], [], [], [], [], []],
  [[], [], [], [], [], [], [], [], [], [], [], [], [], [], [], []],
  [[], [], [], [], [], [], [], [], [], [], [], [], [], [], [], []],
  [[], [], [], [], [], [], [], [], [], [], [], [], [], [], [], []],
  [[], [], [], [], [], [], [], [], [], [], [], [], [], [], [], []],
  [[], [], [], [], [], [], [], [], [], [], [], [], [], [], [], []],
  [[], [], [], [], [], [], [], [], [], [], [], [], [], [], [], []],
  [[], [], [], [], [], [], [], [], [], [], [], [], [], [], [], []],
  [[], [], [], [], [], [], [], [], [], [], [], [], [], [], [], []],
  [[], [], [], [], [], [], [], []]]

noncomputable def yn (y : Nat) : MethodName := nth2 ⟨"", "", ""⟩ (nth2 [] ynA (y / 16)) (y % 16)
noncomputable def yb (y : Nat) : ByteArray := nth2 ⟨#[]⟩ (nth2 [] ybA (y / 16)) (y % 16)
noncomputable def yr (y : Nat) : Option FieldType := nth2 none (nth2 [] yrA (y / 16)) (y % 16)
noncomputable def yo (y : Nat) : Nat := nth2 0 (nth2 [] yoA (y / 16)) (y % 16)
noncomputable def np (y : Nat) : Nat := nth2 0 (nth2 [] npA (y / 16)) (y % 16)
noncomputable def hh (y : Nat) : List (Nat × Nat × Nat × Nat) := nth2 [] (nth2 [] hhA (y / 16)) (y % 16)
def fldA : List (Nat × Nat × Nat × Nat × Nat) := [(5, 9, 5, 0, 90), (5, 17, 5, 1, 92), (5, 20, 5, 2, 95), (5, 23, 5, 3, 97), (5, 27, 5, 4, 101), (1, 9, 1, 0, 122), (1, 15, 1, 1, 125), (1, 18, 1, 2, 128), (1, 21, 1, 3, 131), (2, 12, 2, 0, 143), (2, 21, 2, 1, 145), (2, 25, 2, 2, 147), (2, 29, 2, 3, 149), (2, 32, 2, 4, 151), (4, 11, 4, 0, 173), (4, 17, 4, 1, 174), (4, 21, 4, 2, 175), (7, 9, 7, 0, 190), (7, 15, 7, 1, 191), (7, 19, 7, 2, 193), (7, 23, 7, 3, 195), (7, 26, 7, 4, 197), (7, 29, 7, 5, 199), (7, 32, 7, 6, 201), (7, 35, 7, 7, 203), (6, 9, 6, 0, 228), (6, 15, 6, 1, 229), (6, 18, 6, 2, 230), (6, 21, 6, 3, 231), (6, 24, 6, 4, 232), (6, 27, 6, 5, 233), (6, 30, 6, 6, 234), (6, 33, 6, 7, 235), (6, 37, 6, 8, 236), (3, 9, 3, 0, 262), (3, 15, 3, 1, 263), (3, 18, 3, 2, 264), (3, 21, 3, 3, 265), (10, 15, 10, 0, 293), (10, 22, 10, 1, 294), (0, 10, 8, 0, 308), (0, 16, 8, 1, 309), (0, 19, 8, 2, 310), (0, 25, 8, 3, 311), (0, 32, 8, 4, 312), (0, 39, 8, 5, 313), (0, 46, 8, 6, 314), (0, 53, 8, 7, 315), (0, 57, 8, 8, 316), (0, 61, 8, 9, 317), (0, 65, 8, 10, 318), (0, 139, 2, 0, 144), (0, 205, 5, 3, 100), (0, 167, 5, 1, 94), (2, 105, 1, 2, 129), (2, 108, 1, 0, 123), (2, 111, 1, 1, 126), (2, 117, 5, 4, 102), (2, 60, 1, 3, 132), (2, 130, 5, 1, 93), (0, 260, 2, 3, 150), (0, 103, 2, 4, 152), (0, 173, 5, 2, 96), (0, 184, 5, 0, 91), (0, 316, 7, 6, 202), (0, 322, 7, 2, 194), (0, 325, 7, 3, 196), (0, 328, 7, 4, 198), (0, 329, 7, 5, 200), (10, 79, 10, 3, 297), (10, 73, 10, 2, 295), (0, 106, 2, 1, 146), (0, 110, 1, 3, 133), (0, 118, 1, 0, 124), (0, 126, 1, 1, 127), (0, 129, 1, 2, 130), (12, 15, 9, 1, 1198), (12, 9, 9, 0, 1197), (3, 25, 5, 3, 99), (6, 40, 5, 3, 98), (0, 143, 5, 4, 103), (0, 257, 2, 2, 148), (0, 334, 4, 2, 176), (0, 299, 7, 1, 192), (12, 1048, 10, 2, 296)]
def lnkA_0 : List (Nat × Nat × Nat × Nat × List Nat) := [(2, 11, 3, 0, [85]),
  (2, 20, 3, 1, [119]),
  (4, 24, 2, 2, [172, 79]),
  (13, 1, 2, 7, [280, 281]),
  (0, 9, 2, 2, [78, 79]),
  (0, 24, 2, 3, [166, 167]),
  (0, 31, 3, 4, [187]),
  (0, 38, 3, 5, [225]),
  (0, 45, 3, 6, [259]),
  (0, 52, 2, 8, [277, 278]),
  (0, 347, 1, 10, [791, 381]),
  (0, 156, 1, 11, [788, 789]),
  (0, 355, 0, 12, [833, 407, 408]),
  (5, 54, 0, 14, [853, 855, 25]),
  (0, 190, 0, 13, [829, 831, 24]),
  (0, 202, 0, 15, [849, 850, 851]),
  (0, 170, 1, 18, [786, 378]),
  (5, 36, 0, 12, [406, 407, 408]),
  (0, 148, 1, 19, [783, 784]),
  (0, 159, 0, 20, [793, 415, 416]),
  (0, 163, 0, 21, [779, 781, 23]),
  (2, 102, 0, 25, [398, 399, 400]),
  (2, 114, 0, 26, [402, 403, 404]),
  (2, 120, 0, 27, [394, 395, 396])]
def lnkA_1 : List (Nat × Nat × Nat × Nat × List Nat) := [(0, 135, 0, 28, [1474, 391, 392]),
  (5, 47, 0, 32, [422, 423, 424]),
  (2, 75, 0, 20, [414, 415, 416]),
  (2, 78, 0, 33, [418, 419, 420]),
  (2, 49, 4, 18, [378]),
  (2, 53, 4, 10, [381]),
  (2, 57, 1, 30, [383, 384]),
  (2, 63, 0, 31, [386, 387, 388]),
  (2, 67, 0, 28, [390, 391, 392]),
  (2, 71, 0, 34, [410, 412, 5]),
  (2, 36, 0, 37, [540, 541, 542]),
  (2, 40, 0, 38, [547, 548, 549]),
  (4, 25, 0, 39, [536, 537, 538]),
  (5, 43, 0, 43, [580, 582, 9]),
  (5, 40, 0, 44, [576, 578, 8]),
  (2, 123, 0, 45, [572, 573, 574]),
  (2, 127, 0, 46, [584, 586, 10]),
  (2, 141, 0, 49, [600, 601, 602]),
  (2, 144, 0, 51, [608, 609, 610]),
  (2, 82, 0, 41, [560, 561, 562]),
  (2, 85, 0, 42, [564, 565, 566]),
  (2, 89, 0, 47, [568, 570, 7]),
  (2, 93, 0, 48, [588, 590, 11]),
  (2, 96, 0, 50, [592, 594, 12])]
def lnkA_2 : List (Nat × Nat × Nat × Nat × List Nat) := [(2, 99, 0, 52, [604, 606, 13]),
  (0, 72, 0, 35, [373, 374, 375]),
  (0, 75, 1, 36, [426, 427]),
  (0, 79, 0, 40, [532, 533, 534]),
  (0, 83, 0, 53, [556, 557, 558]),
  (0, 68, 0, 54, [369, 371, 4]),
  (5, 50, 0, 33, [844, 419, 420]),
  (0, 196, 0, 57, [981, 982, 983]),
  (0, 199, 0, 63, [840, 841, 842]),
  (0, 319, 0, 39, [740, 537, 538]),
  (10, 114, 1, 72, [1043, 1044]),
  (10, 104, 5, 73, [1039, 1497, 0, 1041]),
  (10, 108, 1, 74, [1052, 1053]),
  (10, 100, 5, 75, [1035, 1496, 1, 1037]),
  (10, 83, 5, 76, [1064, 1066, 1067, 1065]),
  (13, 333, 6, 77, [1013, 1493, 306, 1014]),
  (10, 191, 1, 79, [1245, 1246]),
  (13, 50, 6, 80, [1242, 1502, 306, 1243]),
  (10, 245, 1, 83, [1126, 1127]),
  (10, 248, 1, 84, [1129, 1130]),
  (13, 53, 6, 85, [1123, 1501, 306, 1124]),
  (13, 343, 6, 87, [1167, 1163, 306, 1162]),
  (0, 268, 0, 78, [1009, 1010, 1011]),
  (0, 271, 0, 81, [1238, 1239, 1240])]
def lnkA_3 : List (Nat × Nat × Nat × Nat × List Nat) := [(0, 122, 1, 82, [966, 967]),
  (0, 275, 0, 86, [1251, 1120, 1121]),
  (0, 132, 0, 27, [933, 395, 396]),
  (0, 283, 0, 88, [1254, 1165, 1503]),
  (12, 335, 0, 90, [670, 671, 672]),
  (10, 40, 0, 90, [1093, 671, 672]),
  (10, 397, 5, 92, [1089, 1499, 2, 1091]),
  (10, 399, 0, 93, [1113, 1114, 1115]),
  (10, 32, 0, 91, [1084, 667, 668]),
  (10, 208, 5, 94, [1085, 1498, 3, 1087]),
  (13, 29, 6, 95, [1028, 1494, 306, 1029]),
  (0, 193, 0, 33, [835, 419, 420]),
  (0, 280, 0, 96, [1253, 1025, 1026]),
  (5, 63, 0, 99, [915, 874, 875]),
  (3, 28, 0, 100, [911, 912, 913]),
  (3, 35, 0, 102, [1411, 1413, 36]),
  (3, 32, 0, 103, [1407, 1409, 35]),
  (0, 242, 0, 101, [907, 908, 909]),
  (0, 245, 0, 104, [1403, 1404, 1405]),
  (3, 39, 0, 106, [1423, 917, 918]),
  (0, 248, 0, 107, [1419, 1420, 1421]),
  (0, 251, 0, 106, [916, 917, 918]),
  (0, 254, 0, 109, [920, 921, 922]),
  (6, 43, 0, 99, [873, 874, 875])]
def lnkA_4 : List (Nat × Nat × Nat × Nat × List Nat) := [(6, 57, 0, 113, [888, 890, 28]),
  (6, 53, 0, 114, [884, 886, 27]),
  (0, 219, 0, 112, [869, 870, 871]),
  (0, 236, 0, 115, [880, 881, 882]),
  (6, 68, 0, 117, [1383, 1385, 32]),
  (6, 72, 0, 119, [1391, 1393, 34]),
  (6, 61, 0, 118, [1379, 1381, 31]),
  (6, 65, 0, 120, [1387, 1389, 33]),
  (0, 239, 0, 121, [1375, 1376, 1377]),
  (0, 227, 0, 116, [865, 867, 26]),
  (0, 230, 0, 122, [1371, 1373, 30]),
  (0, 211, 1, 124, [861, 862]),
  (0, 233, 0, 125, [896, 897, 898]),
  (0, 215, 0, 99, [1360, 874, 875]),
  (0, 176, 0, 128, [799, 800, 801]),
  (12, 1059, 1, 130, [691, 692]),
  (10, 144, 1, 131, [1281, 687]),
  (13, 329, 6, 132, [1277, 1504, 306, 1278]),
  (0, 294, 0, 133, [1273, 1274, 1275]),
  (0, 208, 0, 137, [1288, 1289, 1290]),
  (0, 185, 0, 141, [820, 821, 822]),
  (0, 115, 0, 144, [928, 930, 29]),
  (6, 47, 1, 147, [952, 953]),
  (0, 223, 0, 148, [948, 949, 950])]
def lnkA_5 : List (Nat × Nat × Nat × Nat × List Nat) := [(0, 152, 0, 151, [993, 994, 995]),
  (14, 9, 1, 131, [686, 687]),
  (12, 492, 0, 162, [679, 680, 681]),
  (12, 495, 1, 163, [683, 684]),
  (7, 67, 0, 91, [666, 667, 668]),
  (7, 91, 0, 164, [675, 676, 677]),
  (7, 59, 1, 161, [652, 653]),
  (7, 63, 0, 165, [662, 664, 16]),
  (7, 95, 4, 18, [378]),
  (7, 99, 0, 168, [723, 725, 19]),
  (7, 46, 0, 166, [648, 650, 15]),
  (7, 50, 0, 167, [714, 716, 17]),
  (7, 53, 0, 169, [719, 721, 18]),
  (7, 42, 0, 170, [727, 729, 20]),
  (7, 56, 0, 171, [731, 733, 21]),
  (7, 38, 0, 172, [644, 646, 14]),
  (0, 306, 0, 173, [640, 641, 642]),
  (0, 311, 0, 70, [736, 738, 22]),
  (8, 9, 1, 185, [345, 346]),
  (8, 108, 1, 186, [342, 343]),
  (8, 55, 0, 22, [775, 776, 777]),
  (8, 58, 0, 129, [795, 796, 797]),
  (8, 61, 0, 142, [816, 817, 818]),
  (8, 65, 0, 178, [825, 826, 827])]
def lnkA_6 : List (Nat × Nat × Nat × Nat × List Nat) := [(8, 69, 0, 64, [836, 837, 838]),
  (8, 72, 0, 16, [845, 846, 847]),
  (8, 75, 0, 135, [857, 858, 859]),
  (8, 79, 0, 126, [892, 893, 894]),
  (8, 83, 1, 188, [900, 901]),
  (8, 87, 0, 110, [903, 904, 905]),
  (8, 90, 0, 145, [924, 925, 926]),
  (8, 93, 0, 69, [934, 935, 936]),
  (8, 96, 0, 71, [939, 940, 941]),
  (8, 99, 0, 149, [944, 945, 946]),
  (8, 102, 1, 189, [772, 773]),
  (8, 15, 0, 155, [365, 366, 367]),
  (8, 21, 0, 184, [612, 613, 614]),
  (8, 24, 0, 55, [616, 617, 618]),
  (8, 28, 0, 153, [620, 621, 622]),
  (8, 31, 0, 176, [624, 625, 626]),
  (8, 35, 0, 66, [628, 629, 630]),
  (8, 38, 0, 146, [632, 633, 634]),
  (8, 42, 0, 174, [636, 637, 638]),
  (8, 45, 1, 191, [362, 363]),
  (8, 112, 1, 187, [350, 351]),
  (8, 119, 7, 190, [745, 746]),
  (8, 116, 7, 192, [356, 357]),
  (8, 122, 0, 157, [958, 959, 960])]
def lnkA_7 : List (Nat × Nat × Nat × Nat × List Nat) := [(8, 125, 0, 159, [962, 963, 964]),
  (8, 128, 0, 158, [969, 970, 971]),
  (8, 131, 0, 156, [973, 974, 975]),
  (8, 134, 0, 65, [977, 978, 979]),
  (8, 190, 0, 111, [1001, 1002, 1003]),
  (8, 176, 0, 150, [1292, 1293, 1294]),
  (8, 170, 0, 152, [989, 990, 991]),
  (8, 270, 1, 194, [1352, 1353]),
  (8, 285, 0, 105, [1399, 1400, 1401]),
  (8, 288, 0, 108, [1415, 1416, 1417]),
  (8, 291, 0, 123, [1424, 1425, 1426]),
  (15, 47, 2, 8, [1181, 278]),
  (15, 54, 0, 86, [1182, 1120, 1121]),
  (15, 50, 0, 96, [1184, 1025, 1026]),
  (15, 61, 0, 202, [1185, 1145, 1146]),
  (15, 343, 1, 197, [1176, 1177]),
  (15, 339, 1, 198, [1173, 1174]),
  (12, 552, 5, 196, [1156, 1158, 1159, 1157]),
  (12, 549, 8, 88, [1161, 1163, 1162, 1164, 1165]),
  (12, 1047, 5, 76, [1169, 1066, 1067, 1065]),
  (12, 54, 1, 199, [1170, 1171]),
  (12, 489, 2, 200, [1152, 1153]),
  (13, 137, 2, 201, [1149, 1150]),
  (8, 179, 0, 91, [1267, 667, 668])]
def lnkA_8 : List (Nat × Nat × Nat × Nat × List Nat) := [(8, 184, 0, 134, [1268, 1269, 1270]),
  (8, 187, 0, 164, [1283, 676, 677]),
  (8, 199, 2, 8, [1256, 278]),
  (8, 209, 0, 86, [1260, 1120, 1121]),
  (8, 202, 0, 96, [1258, 1025, 1026]),
  (8, 216, 0, 202, [1263, 1145, 1146]),
  (8, 206, 0, 81, [1259, 1239, 1240]),
  (8, 245, 0, 97, [1324, 1325, 1326]),
  (8, 220, 1, 203, [1264, 1265]),
  (8, 248, 0, 58, [1331, 1332, 1333]),
  (8, 251, 0, 143, [1335, 1336, 1337]),
  (8, 254, 0, 17, [1339, 1340, 1341]),
  (8, 257, 0, 59, [1343, 1344, 1345]),
  (8, 264, 1, 205, [1364, 1365]),
  (8, 264, 1, 206, [1364, 1365]),
  (8, 264, 1, 207, [1364, 1365]),
  (8, 264, 1, 208, [1364, 1365]),
  (8, 264, 1, 209, [1364, 1365]),
  (8, 264, 1, 210, [1364, 1365]),
  (8, 264, 1, 211, [1364, 1365]),
  (8, 264, 1, 212, [1364, 1365]),
  (8, 264, 1, 213, [1364, 1365]),
  (8, 264, 1, 214, [1364, 1365]),
  (8, 264, 1, 215, [1364, 1365])]
def lnkA_9 : List (Nat × Nat × Nat × Nat × List Nat) := [(8, 264, 1, 216, [1364, 1365]),
  (8, 264, 1, 217, [1364, 1365]),
  (8, 264, 1, 218, [1364, 1365]),
  (8, 264, 1, 219, [1364, 1365]),
  (8, 264, 1, 220, [1364, 1365]),
  (8, 264, 1, 221, [1364, 1365]),
  (8, 264, 1, 222, [1364, 1365]),
  (8, 264, 1, 223, [1364, 1365]),
  (8, 264, 1, 224, [1364, 1365]),
  (8, 264, 1, 225, [1364, 1365]),
  (8, 264, 1, 226, [1364, 1365]),
  (8, 264, 1, 227, [1364, 1365]),
  (8, 264, 1, 228, [1364, 1365]),
  (8, 264, 1, 229, [1364, 1365]),
  (8, 264, 1, 230, [1364, 1365]),
  (8, 264, 1, 231, [1364, 1365]),
  (8, 264, 1, 232, [1364, 1365]),
  (8, 264, 1, 233, [1364, 1365]),
  (8, 264, 1, 234, [1364, 1365]),
  (8, 264, 1, 235, [1364, 1365]),
  (8, 264, 1, 236, [1364, 1365]),
  (8, 264, 1, 237, [1364, 1365]),
  (8, 274, 0, 127, [1356, 1357, 1358]),
  (8, 278, 1, 238, [1361, 1362])]
def lnkA_10 : List (Nat × Nat × Nat × Nat × List Nat) := [(8, 282, 0, 136, [1367, 1368, 1369]),
  (8, 173, 0, 62, [997, 998, 999]),
  (8, 194, 0, 98, [1005, 1006, 1007]),
  (8, 224, 0, 179, [1284, 1285, 1286]),
  (8, 227, 0, 138, [1296, 1297, 1298]),
  (8, 231, 1, 204, [1316, 1317]),
  (8, 143, 0, 61, [1434, 1435, 1436]),
  (8, 146, 0, 68, [1438, 1439, 1440]),
  (8, 149, 0, 60, [1442, 1443, 1444]),
  (8, 152, 0, 140, [1446, 1447, 1448]),
  (8, 155, 0, 67, [1450, 1451, 1452]),
  (8, 158, 0, 56, [1454, 1455, 1456]),
  (8, 161, 0, 154, [1458, 1459, 1460]),
  (8, 164, 0, 177, [1462, 1463, 1464]),
  (8, 167, 0, 180, [1466, 1467, 1468]),
  (8, 295, 1, 241, [1431, 1432]),
  (8, 299, 0, 29, [1470, 1471, 1472]),
  (8, 302, 0, 89, [1475, 1476, 1477]),
  (8, 305, 0, 175, [1479, 1480, 1481]),
  (8, 308, 0, 160, [1483, 1484, 1485]),
  (8, 311, 0, 139, [1488, 1489, 1490]),
  (8, 315, 2, 9, [70, 71]),
  (8, 316, 1, 243, [353, 354]),
  (8, 320, 1, 193, [742, 743])]
def lnkA_11 : List (Nat × Nat × Nat × Nat × List Nat) := [(8, 324, 1, 240, [986, 987]),
  (8, 327, 1, 239, [1347, 1348]),
  (8, 331, 1, 195, [1396, 1397]),
  (8, 334, 1, 242, [1428, 1429])]
def lnkA : List (Nat × Nat × Nat × Nat × List Nat) := lnkA_0 ++ (lnkA_1 ++ (lnkA_2 ++ (lnkA_3 ++ (lnkA_4 ++ (lnkA_5 ++ (lnkA_6 ++ (lnkA_7 ++ (lnkA_8 ++ (lnkA_9 ++ (lnkA_10 ++ (lnkA_11)))))))))))
def metA_0 : List (Nat × Nat) := [(86, 40), (120, 41), (80, 39), (168, 42), (188, 43), (226, 44), (260, 45), (282, 46), (279, 47), (72, 38), (382, 38), (790, 38), (409, 40), (832, 38), (856, 40), (852, 40), (848, 38), (1342, 38), (379, 38), (785, 38)]
def metA_1 : List (Nat × Nat) := [(417, 40), (782, 38), (778, 38), (382, 38), (382, 38), (401, 41), (405, 40), (397, 39), (393, 39), (1473, 38), (385, 39), (389, 41), (425, 40), (421, 40), (413, 39), (376, 39), (428, 38), (543, 40), (550, 41), (539, 39)]
def metA_2 : List (Nat × Nat) := [(535, 42), (563, 41), (567, 41), (583, 40), (579, 40), (575, 40), (587, 39), (571, 39), (591, 39), (603, 40), (595, 39), (611, 40), (607, 39), (559, 39), (372, 38), (619, 38), (1457, 38), (984, 40), (1334, 38), (1346, 38)]
def metA_3 : List (Nat × Nat) := [(1445, 38), (1437, 38), (1000, 38), (843, 40), (839, 38), (980, 38), (631, 38), (1453, 38), (1441, 38), (937, 38), (739, 38), (942, 38), (1045, 65), (1042, 46), (1054, 66), (1038, 46), (1068, 46), (1015, 46), (1012, 47), (1247, 58)]
def metA_4 : List (Nat × Nat) := [(1244, 46), (1241, 47), (968, 38), (1128, 63), (1131, 63), (1125, 46), (1122, 47), (1168, 46), (1166, 47), (1478, 38), (673, 48), (669, 48), (1092, 46), (1116, 48), (1088, 46), (1030, 46), (1027, 47), (1327, 38), (1008, 38), (876, 40)]
def metA_5 : List (Nat × Nat) := [(914, 40), (910, 45), (1414, 45), (1410, 45), (1406, 45), (1402, 38), (919, 45), (1422, 45), (1418, 38), (923, 40), (906, 38), (1004, 38), (872, 44), (891, 44), (887, 44), (883, 44), (868, 38), (1386, 44), (1382, 44), (1394, 44)]
def metA_6 : List (Nat × Nat) := [(1390, 44), (1378, 44), (1374, 38), (1427, 38), (863, 38), (899, 44), (895, 38), (1359, 38), (802, 40), (798, 38), (693, 59), (688, 48), (1279, 46), (1276, 47), (1271, 38), (860, 38), (1370, 38), (1291, 40), (1299, 38), (1491, 38)]
def metA_7 : List (Nat × Nat) := [(1449, 38), (823, 40), (819, 38), (1338, 38), (931, 38), (927, 38), (635, 38), (954, 63), (951, 44), (947, 38), (1295, 38), (996, 40), (992, 38), (623, 38), (1461, 38), (368, 38), (976, 38), (961, 38), (972, 38), (965, 38)]
def metA_8 : List (Nat × Nat) := [(1486, 38), (654, 43), (682, 48), (685, 58), (678, 48), (665, 43), (651, 43), (717, 43), (726, 43), (722, 43), (730, 43), (734, 43), (647, 43), (643, 43), (639, 38), (1482, 38), (627, 38), (1465, 38), (828, 38), (1287, 38)]
def metA_9 : List (Nat × Nat) := [(1469, 38), (382, 38), (382, 38), (382, 38), (615, 38), (347, 37), (344, 37), (352, 37), (902, 37), (774, 37), (747, 37), (364, 37), (358, 37), (744, 37), (1354, 37), (1398, 37), (1160, 46), (1178, 66), (1175, 66), (1172, 66)]
def metA_10 : List (Nat × Nat) := [(1154, 48), (1151, 48), (1147, 47), (1266, 37)]
def metA_11 : List (Nat × Nat) := [(1318, 37)]
def metA_12 : List (Nat × Nat) := [(1366, 37), (1366, 37), (1366, 37), (1366, 37), (1366, 37), (1366, 37), (1366, 37), (1366, 37), (1366, 37), (1366, 37), (1366, 37), (1366, 37), (1366, 37), (1366, 37), (1366, 37), (1366, 37), (1366, 37), (1366, 37), (1366, 37), (1366, 37)]
def metA_13 : List (Nat × Nat) := [(1366, 37), (1366, 37), (1366, 37), (1366, 37), (1366, 37), (1366, 37), (1366, 37), (1366, 37), (1366, 37), (1366, 37), (1366, 37), (1366, 37), (1366, 37), (1363, 37), (1349, 37)]
def metA_14 : List (Nat × Nat) := [(988, 37)]
def metA_15 : List (Nat × Nat) := [(1433, 37), (1430, 37), (355, 37), (382, 38), (382, 38), (382, 38), (382, 38), (382, 38), (382, 38), (382, 38), (382, 38), (382, 38), (382, 38), (382, 38), (382, 38), (382, 38), (382, 38), (382, 38), (382, 38), (382, 38)]
def metA_16 : List (Nat × Nat) := [(382, 38), (382, 38), (382, 38), (382, 38), (382, 38), (382, 38), (382, 38), (382, 38), (382, 38), (382, 38), (382, 38), (382, 38), (382, 38), (382, 38), (382, 38), (382, 38), (382, 38), (382, 38), (382, 38), (382, 38)]
def metA_17 : List (Nat × Nat) := [(382, 38), (382, 38), (382, 38), (382, 38), (382, 38), (382, 38), (382, 38), (382, 38), (382, 38), (382, 38), (382, 38), (382, 38), (382, 38), (382, 38), (382, 38), (382, 38), (382, 38), (382, 38), (382, 38), (382, 38)]
def metA_18 : List (Nat × Nat) := [(382, 38), (382, 38), (382, 38), (382, 38), (382, 38), (382, 38), (382, 38), (382, 38), (382, 38), (382, 38), (382, 38), (382, 38), (382, 38), (382, 38), (382, 38), (382, 38), (382, 38), (382, 38), (382, 38), (382, 38)]
def metA_19 : List (Nat × Nat) := [(382, 38), (382, 38), (382, 38), (382, 38), (382, 38), (382, 38), (382, 38), (382, 38), (382, 38), (382, 38), (382, 38), (382, 38), (382, 38), (382, 38), (382, 38), (382, 38), (382, 38), (382, 38), (382, 38), (382, 38)]
def metA_20 : List (Nat × Nat) := [(382, 38), (382, 38)]
def newA : List (Nat × Nat × Nat × List Nat) := [(2, 9, 5, [82, 83, 40]), (2, 18, 1, [116, 117, 41]), (4, 9, 2, [170, 77, 39]), (0, 7, 2, [76, 77, 39]), (0, 22, 4, [164, 165, 42]), (0, 29, 7, [184, 185, 43]), (0, 36, 6, [222, 223, 44]), (0, 43, 3, [256, 257, 45]), (0, 50, 10, [275, 276, 47]), (15, 45, 10, [1180, 276, 47]), (13, 18, 9, [1148, 767, 48]), (8, 197, 10, [1255, 276, 47]), (8, 16, 8, [68, 69, 38])]
def ldiA : List (Nat × Nat × Int × Nat) := [(16, 200, 2147483639, 1047), (10, 39, 2147483647, 1051), (11, 265, 1431655765, 955), (11, 266, 858993459, 956), (11, 267, 252645135, 957), (8, 7, 69069, 348), (8, 8, 1103515245, 349)]
/-- the places of the words that tell how objects are laid -/
def layA : List (List Nat) := [[134, 136, 138, 140], [153, 155, 157, 159, 161], [266, 268, 270, 272], [177, 179, 181], [104, 106, 108, 110, 112], [237, 239, 241, 243, 245, 247, 249, 251, 253], [204, 206, 208, 210, 212, 214, 216, 218], [319, 321, 323, 325, 327, 329, 331, 333, 335, 337, 339], [768, 770, 1199, 1201], [298, 300, 302, 304]]
def stzA : List (Nat × Nat × Nat) := [(10, 18, 1), (11, 83, 102), (11, 87, 103), (12, 38, 1), (12, 1053, 101)]
def stfA : List (Nat × Nat × Nat) := [(12, 9, 705), (12, 15, 706)]
def stzH : List Nat := [284, 1132, 1134, 674, 689]
def stfH : List Nat := [1197, 1198]
def fixA : List Nat := [74, 75, 115, 221, 307, 1395, 546, 545, 56, 57, 554, 598, 878, 555, 599, 879, 1056, 1057, 1058, 1059]
def slsA : List (Nat × Nat × Nat) := [(0, 278, 10), (0, 286, 4), (0, 288, 6), (0, 290, 8), (7, 77, 28), (8, 200, 12), (8, 212, 14), (8, 214, 16), (8, 235, 18), (8, 237, 20), (8, 239, 22), (8, 241, 24), (8, 243, 26)]
def anwAH : List (Nat × Nat × Nat × Nat) := [(4, 9, 0, 170), (5, 15, 1, 88), (8, 268, 2, 1350), (15, 310, 4, 1055), (15, 311, 3, 1061)]
def anwA : List (Nat × Nat × Nat) := [(4, 9, 0), (5, 15, 1), (8, 268, 2), (15, 310, 4), (15, 311, 3)]
def oinAH : List (Nat × Nat × Nat × Nat) := [(0, 1, 0, 73), (1, 3, 0, 121), (2, 3, 0, 81), (3, 3, 0, 261), (4, 3, 0, 169), (5, 3, 0, 87), (6, 3, 0, 227), (7, 3, 0, 189), (10, 3, 0, 283), (12, 1, 0, 1155)]
def oinA : List (Nat × Nat × Nat) := [(0, 1, 0), (1, 3, 0), (2, 3, 0), (3, 3, 0), (4, 3, 0), (5, 3, 0), (6, 3, 0), (7, 3, 0), (10, 3, 0), (12, 1, 0)]
def mthAH : List (Nat × Nat × Nat × Nat) := [(1, 25, 0, 551), (2, 43, 0, 552), (2, 133, 1, 596), (2, 138, 2, 597), (4, 29, 1, 553), (5, 30, 0, 544), (5, 58, 3, 877), (7, 71, 2, 713), (8, 137, 2, 985), (8, 261, 3, 1355), (10, 138, 1, 1280), (12, 212, 0, 1117), (15, 150, 0, 1063), (15, 304, 1, 1062), (16, 194, 2, 1046)]
def mthA : List (Nat × Nat × Nat) := [(1, 25, 0), (2, 43, 0), (2, 133, 1), (2, 138, 2), (4, 29, 1), (5, 30, 0), (5, 58, 3), (7, 71, 2), (8, 137, 2), (8, 261, 3), (10, 138, 1), (12, 212, 0), (15, 150, 0), (15, 304, 1), (16, 194, 2)]
/-- throws: method, place, its class by number, the class entry, the text entry, is it wide, the constructor entry, which -/
def thrA : List (Nat × Nat × Nat × Nat × Nat × Nat × Nat × Nat) := [(11, 7, 0, 86, 351, 1, 90, 1), (13, 20, 0, 93, 358, 1, 97, 4), (19, 9, 0, 86, 343, 1, 90, 1), (21, 28, 0, 93, 353, 1, 97, 4), (36, 5, 0, 86, 88, 0, 90, 1), (36, 20, 0, 93, 95, 0, 97, 4), (36, 35, 0, 98, 100, 0, 102, 2), (59, 15, 0, 263, 265, 1, 267, 5), (64, 16, 0, 93, 181, 0, 97, 4), (69, 7, 0, 93, 330, 1, 97, 4), (71, 7, 0, 93, 332, 1, 97, 4), (124, 10, 0, 86, 345, 1, 90, 1), (129, 20, 0, 179, 181, 0, 183, 3), (134, 15, 0, 179, 292, 1, 183, 3), (138, 15, 0, 263, 265, 1, 267, 5), (142, 19, 0, 93, 188, 0, 97, 4), (144, 18, 0, 179, 360, 1, 183, 3), (160, 7, 0, 98, 341, 1, 102, 2), (174, 25, 0, 86, 309, 1, 90, 1), (174, 50, 0, 98, 314, 1, 102, 2)]
def fndThr : List (Nat × Nat × Nat × Nat × Nat × Nat × Nat × Nat) → Nat → Nat → Nat → Nat → Bool
  | [], _, _, _, _ => false
  | r :: l, y, pc, i, e => (Nat.beq r.1 y && Nat.beq r.2.1 pc && Nat.beq r.2.2.2.1 i && Nat.beq r.2.2.2.2.2.2.2 e) || fndThr l y pc i e
