/-! NAMES AND TABLES, by program: classes with their fields, methods with their words, what the constant pools link; every row is held against the tables below. -/
def RR1 : String := "RecordReconciler$Batch"
def TT1 : u_T := fun k => match k with
  | 0 => ("RecordReconciler$Batch", "sources", "[I", true)
  | 1 => ("RecordReconciler$Batch", "keys", "[I", true)
  | 2 => ("RecordReconciler$Batch", "amounts", "[I", true)
  | _ => ("RecordReconciler$Batch", "size", "I", false)
def tt1 : Nat → FieldType := fun k => match k with
  | 0 => .array .int
  | 1 => .array .int
  | 2 => .array .int
  | _ => .int
theorem nn1 : ∀ a, a < 4 → ∀ b, b < 4 → a ≠ b → (TT1 a).2.1 ≠ (TT1 b).2.1 := by decide +kernel
theorem tt1_ok : ∀ k, k < 4 → parseFieldDescriptor (TT1 k).2.2.1 = some (tt1 k) := by decide +kernel
def RR2 : String := "RecordReconciler$Book"
def TT2 : u_T := fun k => match k with
  | 0 => ("RecordReconciler$Book", "table", "LRecordReconciler$KeyTable;", true)
  | 1 => ("RecordReconciler$Book", "batch", "LRecordReconciler$Batch;", true)
  | 2 => ("RecordReconciler$Book", "trust", "[I", true)
  | 3 => ("RecordReconciler$Book", "totals", "[I", true)
  | _ => ("RecordReconciler$Book", "today", "I", false)
def tt2 : Nat → FieldType := fun k => match k with
  | 0 => .object "RecordReconciler$KeyTable"
  | 1 => .object "RecordReconciler$Batch"
  | 2 => .array .int
  | 3 => .array .int
  | _ => .int
theorem nn2 : ∀ a, a < 5 → ∀ b, b < 5 → a ≠ b → (TT2 a).2.1 ≠ (TT2 b).2.1 := by decide +kernel
theorem tt2_ok : ∀ k, k < 5 → parseFieldDescriptor (TT2 k).2.2.1 = some (tt2 k) := by decide +kernel
def RR3 : String := "RecordReconciler$Groups"
def TT3 : u_T := fun k => match k with
  | 0 => ("RecordReconciler$Groups", "links", "[I", true)
  | 1 => ("RecordReconciler$Groups", "parents", "[I", true)
  | 2 => ("RecordReconciler$Groups", "queue", "[I", true)
  | _ => ("RecordReconciler$Groups", "rows", "I", false)
def tt3 : Nat → FieldType := fun k => match k with
  | 0 => .array .int
  | 1 => .array .int
  | 2 => .array .int
  | _ => .int
theorem nn3 : ∀ a, a < 4 → ∀ b, b < 4 → a ≠ b → (TT3 a).2.1 ≠ (TT3 b).2.1 := by decide +kernel
theorem tt3_ok : ∀ k, k < 4 → parseFieldDescriptor (TT3 k).2.2.1 = some (tt3 k) := by decide +kernel
def RR4 : String := "RecordReconciler$History"
def TT4 : u_T := fun k => match k with
  | 0 => ("RecordReconciler$History", "kept", "[LRecordReconciler$Book;", true)
  | 1 => ("RecordReconciler$History", "newest", "I", false)
  | _ => ("RecordReconciler$History", "size", "I", false)
def tt4 : Nat → FieldType := fun k => match k with
  | 0 => .array (.object "RecordReconciler$Book")
  | 1 => .int
  | _ => .int
theorem nn4 : ∀ a, a < 3 → ∀ b, b < 3 → a ≠ b → (TT4 a).2.1 ≠ (TT4 b).2.1 := by decide +kernel
theorem tt4_ok : ∀ k, k < 3 → parseFieldDescriptor (TT4 k).2.2.1 = some (tt4 k) := by decide +kernel
def RR5 : String := "RecordReconciler$KeyTable"
def TT5 : u_T := fun k => match k with
  | 0 => ("RecordReconciler$KeyTable", "keys", "[I", true)
  | 1 => ("RecordReconciler$KeyTable", "amounts", "[[I", true)
  | 2 => ("RecordReconciler$KeyTable", "days", "[[I", true)
  | 3 => ("RecordReconciler$KeyTable", "rows", "I", false)
  | _ => ("RecordReconciler$KeyTable", "records", "I", false)
def tt5 : Nat → FieldType := fun k => match k with
  | 0 => .array .int
  | 1 => .array (.array .int)
  | 2 => .array (.array .int)
  | 3 => .int
  | _ => .int
theorem nn5 : ∀ a, a < 5 → ∀ b, b < 5 → a ≠ b → (TT5 a).2.1 ≠ (TT5 b).2.1 := by decide +kernel
theorem tt5_ok : ∀ k, k < 5 → parseFieldDescriptor (TT5 k).2.2.1 = some (tt5 k) := by decide +kernel
def RR6 : String := "RecordReconciler$Matching"
def TT6 : u_T := fun k => match k with
  | 0 => ("RecordReconciler$Matching", "reach", "[I", true)
  | 1 => ("RecordReconciler$Matching", "mates", "[I", true)
  | 2 => ("RecordReconciler$Matching", "reachedBy", "[I", true)
  | 3 => ("RecordReconciler$Matching", "queue", "[I", true)
  | 4 => ("RecordReconciler$Matching", "layers", "[I", true)
  | 5 => ("RecordReconciler$Matching", "nextTries", "[I", true)
  | 6 => ("RecordReconciler$Matching", "path", "[I", true)
  | 7 => ("RecordReconciler$Matching", "rows", "I", false)
  | _ => ("RecordReconciler$Matching", "lastLayer", "I", false)
def tt6 : Nat → FieldType := fun k => match k with
  | 0 => .array .int
  | 1 => .array .int
  | 2 => .array .int
  | 3 => .array .int
  | 4 => .array .int
  | 5 => .array .int
  | 6 => .array .int
  | 7 => .int
  | _ => .int
theorem nn6 : ∀ a, a < 9 → ∀ b, b < 9 → a ≠ b → (TT6 a).2.1 ≠ (TT6 b).2.1 := by decide +kernel
theorem tt6_ok : ∀ k, k < 9 → parseFieldDescriptor (TT6 k).2.2.1 = some (tt6 k) := by decide +kernel
def RR7 : String := "RecordReconciler$Program"
def TT7 : u_T := fun k => match k with
  | 0 => ("RecordReconciler$Program", "text", "[C", true)
  | 1 => ("RecordReconciler$Program", "length", "I", false)
  | 2 => ("RecordReconciler$Program", "kinds", "[I", true)
  | 3 => ("RecordReconciler$Program", "sources", "[C", true)
  | 4 => ("RecordReconciler$Program", "keys", "[I", true)
  | 5 => ("RecordReconciler$Program", "amounts", "[I", true)
  | 6 => ("RecordReconciler$Program", "commands", "I", false)
  | _ => ("RecordReconciler$Program", "position", "I", false)
def tt7 : Nat → FieldType := fun k => match k with
  | 0 => .array .char
  | 1 => .int
  | 2 => .array .int
  | 3 => .array .char
  | 4 => .array .int
  | 5 => .array .int
  | 6 => .int
  | _ => .int
theorem nn7 : ∀ a, a < 8 → ∀ b, b < 8 → a ≠ b → (TT7 a).2.1 ≠ (TT7 b).2.1 := by decide +kernel
theorem tt7_ok : ∀ k, k < 8 → parseFieldDescriptor (TT7 k).2.2.1 = some (tt7 k) := by decide +kernel
def RR8 : String := "RecordReconciler"
def TT8 : u_T := fun k => match k with
  | 0 => ("RecordReconciler", "book", "LRecordReconciler$Book;", true)
  | 1 => ("RecordReconciler", "beforeRun", "LRecordReconciler$Book;", true)
  | 2 => ("RecordReconciler", "saved", "LRecordReconciler$Book;", true)
  | 3 => ("RecordReconciler", "history", "LRecordReconciler$History;", true)
  | 4 => ("RecordReconciler", "program", "LRecordReconciler$Program;", true)
  | 5 => ("RecordReconciler", "matching", "LRecordReconciler$Matching;", true)
  | 6 => ("RecordReconciler", "groups", "LRecordReconciler$Groups;", true)
  | 7 => ("RecordReconciler", "line", "Ljava/lang/StringBuilder;", true)
  | 8 => ("RecordReconciler", "hasSaved", "Z", false)
  | 9 => ("RecordReconciler", "errorAt", "I", false)
  | _ => ("RecordReconciler", "failedAt", "I", false)
def tt8 : Nat → FieldType := fun k => match k with
  | 0 => .object "RecordReconciler$Book"
  | 1 => .object "RecordReconciler$Book"
  | 2 => .object "RecordReconciler$Book"
  | 3 => .object "RecordReconciler$History"
  | 4 => .object "RecordReconciler$Program"
  | 5 => .object "RecordReconciler$Matching"
  | 6 => .object "RecordReconciler$Groups"
  | 7 => .object "java/lang/StringBuilder"
  | 8 => .boolean
  | 9 => .int
  | _ => .int
theorem nn8 : ∀ a, a < 11 → ∀ b, b < 11 → a ≠ b → (TT8 a).2.1 ≠ (TT8 b).2.1 := by decide +kernel
theorem tt8_ok : ∀ k, k < 11 → parseFieldDescriptor (TT8 k).2.2.1 = some (tt8 k) := by decide +kernel
def RR9 : String := "RecordReconcilerModel"
def TT9 : u_T := fun k => match k with
  | 0 => ("RecordReconcilerModel", "now", "[I", true)
  | 1 => ("RecordReconcilerModel", "before", "[I", true)
  | 2 => ("RecordReconcilerModel", "saved", "[I", true)
  | 3 => ("RecordReconcilerModel", "history", "[I", true)
  | 4 => ("RecordReconcilerModel", "isSaved", "Z", false)
  | 5 => ("RecordReconcilerModel", "remembered", "I", false)
  | 6 => ("RecordReconcilerModel", "errorAt", "I", false)
  | 7 => ("RecordReconcilerModel", "failedAt", "I", false)
  | 8 => ("RecordReconcilerModel", "partners", "[I", true)
  | 9 => ("RecordReconcilerModel", "from", "[I", true)
  | 10 => ("RecordReconcilerModel", "queue", "[I", true)
  | 11 => ("RecordReconcilerModel", "groups", "[I", true)
  | 12 => ("RecordReconcilerModel", "text", "[I", true)
  | 13 => ("RecordReconcilerModel", "typed", "I", false)
  | 14 => ("RecordReconcilerModel", "line", "[I", true)
  | 15 => ("RecordReconcilerModel", "lined", "I", false)
  | 16 => ("RecordReconcilerModel", "thrown", "I", false)
  | 17 => ("RecordReconcilerModel", "size", "I", false)
  | 18 => ("RecordReconcilerModel", "spot", "I", false)
  | 19 => ("RecordReconcilerModel", "wrong", "I", false)
  | 20 => ("RecordReconcilerModel", "told", "I", false)
  | _ => ("RecordReconcilerModel", "numbers", "[I", true)
def tt9 : Nat → FieldType := fun k => match k with
  | 0 => .array .int
  | 1 => .array .int
  | 2 => .array .int
  | 3 => .array .int
  | 4 => .boolean
  | 5 => .int
  | 6 => .int
  | 7 => .int
  | 8 => .array .int
  | 9 => .array .int
  | 10 => .array .int
  | 11 => .array .int
  | 12 => .array .int
  | 13 => .int
  | 14 => .array .int
  | 15 => .int
  | 16 => .int
  | 17 => .int
  | 18 => .int
  | 19 => .int
  | 20 => .int
  | _ => .array .int
theorem nn9 : ∀ a, a < 22 → ∀ b, b < 22 → a ≠ b → (TT9 a).2.1 ≠ (TT9 b).2.1 := by decide +kernel
theorem tt9_ok : ∀ k, k < 22 → parseFieldDescriptor (TT9 k).2.2.1 = some (tt9 k) := by decide +kernel
def RR10 : String := "java/lang/StringBuilder"
def TT10 : u_T := fun k => match k with
  | 0 => ("java/lang/AbstractStringBuilder", "value", "[B", false)
  | 1 => ("java/lang/AbstractStringBuilder", "coder", "B", false)
  | 2 => ("java/lang/AbstractStringBuilder", "maybeLatin1", "Z", false)
  | _ => ("java/lang/AbstractStringBuilder", "count", "I", false)
def tt10 : Nat → FieldType := fun k => match k with
  | 0 => .array .byte
  | 1 => .byte
  | 2 => .boolean
  | _ => .int
theorem nn10 : ∀ a, a < 4 → ∀ b, b < 4 → a ≠ b → (TT10 a).2.1 ≠ (TT10 b).2.1 := by decide +kernel
theorem tt10_ok : ∀ k, k < 4 → parseFieldDescriptor (TT10 k).2.2.1 = some (tt10 k) := by decide +kernel
abbrev clL : List vw_C := [(RR1, TT1, 4), (RR2, TT2, 5), (RR3, TT3, 4), (RR4, TT4, 3), (RR5, TT5, 5), (RR6, TT6, 9), (RR7, TT7, 8), (RR8, TT8, 11), (RR9, TT9, 22), (RR10, TT10, 4)]
def lw_x : List MethodName := [⟨"java/lang/AbstractStringBuilder", "newCapacity", "(I)I"⟩, ⟨"java/lang/AbstractStringBuilder", "ensureCapacityInternal", "(I)V"⟩, ⟨"java/lang/AbstractStringBuilder", "inflateIfNeededFor", "(Ljava/lang/String;)V"⟩, ⟨"java/lang/AbstractStringBuilder", "putStringAt", "(ILjava/lang/String;)V"⟩]
def TBL : List Cond := lw_x.map (fun q => Cond.selects "java/lang/StringBuilder" q q) ++ lw_tbl
def TTT : List (Nat → FieldType) := [tt1, tt2, tt3, tt4, tt5, tt6, tt7, tt8, tt9, tt10]
def cnA : List String := ["RecordReconciler", "RecordReconciler$Batch", "RecordReconciler$Book", "RecordReconciler$Groups", "RecordReconciler$History", "RecordReconciler$KeyTable", "RecordReconciler$Matching", "RecordReconciler$Program", "RecordReconcilerLaw", "RecordReconcilerModel", "java/lang/AbstractStringBuilder", "java/lang/Integer", "java/lang/String", "java/lang/StringBuilder", "java/lang/StringLatin1", "java/util/Arrays", "jdk/internal/util/ArraysSupport", "jdk/internal/util/Preconditions"]
def cn (o : Nat) : String := nth2 "" cnA o
noncomputable def ynA : List (List (MethodName)) := [[⟨"RecordReconciler$KeyTable", "<init>", "()V"⟩, ⟨"RecordReconciler$Batch", "<init>", "()V"⟩, ⟨"RecordReconciler$Book", "<init>", "()V"⟩, ⟨"RecordReconciler$History", "<init>", "()V"⟩, ⟨"RecordReconciler$Program", "<init>", "()V"⟩, ⟨"RecordReconciler$Matching", "<init>", "()V"⟩, ⟨"RecordReconciler$Groups", "<init>", "()V"⟩, ⟨"java/lang/AbstractStringBuilder", "<init>", "(I)V"⟩, ⟨"java/lang/StringBuilder", "<init>", "()V"⟩, ⟨"RecordReconciler", "<init>", "()V"⟩, ⟨"RecordReconciler", "isKey", "(I)Z"⟩, ⟨"RecordReconciler", "requireKey", "(I)V"⟩, ⟨"RecordReconciler$KeyTable", "rowOf", "(I)I"⟩, ⟨"RecordReconciler", "requireRow", "(I)I"⟩, ⟨"RecordReconciler$KeyTable", "votesFor", "(II)I"⟩, ⟨"RecordReconciler$KeyTable", "acceptedAt", "(I)I"⟩],
  [⟨"RecordReconciler", "acceptedAmount", "(I)I"⟩, ⟨"RecordReconciler", "acceptedTotal", "()I"⟩, ⟨"RecordReconciler", "indexOf", "(C)I"⟩, ⟨"RecordReconciler", "requireSource", "(C)I"⟩, ⟨"RecordReconciler$KeyTable", "rowOfRecord", "(II)I"⟩, ⟨"RecordReconciler", "requireRecord", "(CI)I"⟩, ⟨"RecordReconciler", "amountOf", "(CI)I"⟩, ⟨"RecordReconciler$Program", "add", "(C)I"⟩, ⟨"RecordReconciler", "append", "(C)I"⟩, ⟨"RecordReconciler$Batch", "previousOf", "(I)I"⟩, ⟨"RecordReconciler$KeyTable", "amountFor", "(II)I"⟩, ⟨"RecordReconciler$Book", "outcomeAt", "(I)C"⟩, ⟨"RecordReconciler$Book", "hasRoomForBatch", "()Z"⟩, ⟨"RecordReconciler", "canClose", "()Z"⟩, ⟨"RecordReconciler$Book", "isAmount", "(I)Z"⟩, ⟨"RecordReconciler$Batch", "latest", "(III)I"⟩],
  [⟨"RecordReconciler$KeyTable", "holdersAt", "(I)I"⟩, ⟨"RecordReconciler$KeyTable", "statusAt", "(I)C"⟩, ⟨"RecordReconciler$Book", "settleFault", "(II)I"⟩, ⟨"RecordReconciler$Book", "faultOf", "(ICII)I"⟩, ⟨"RecordReconciler", "refuse", "(I)V"⟩, ⟨"RecordReconciler$KeyTable", "copyFrom", "(LRecordReconciler$KeyTable;)V"⟩, ⟨"RecordReconciler$Batch", "copyFrom", "(LRecordReconciler$Batch;)V"⟩, ⟨"RecordReconciler$Book", "copyFrom", "(LRecordReconciler$Book;)V"⟩, ⟨"RecordReconciler$History", "keep", "(LRecordReconciler$Book;)V"⟩, ⟨"RecordReconciler$Batch", "add", "(III)I"⟩, ⟨"RecordReconciler$Batch", "removeAt", "(I)I"⟩, ⟨"RecordReconciler$KeyTable", "copyRow", "(II)V"⟩, ⟨"RecordReconciler$KeyTable", "openRow", "(I)I"⟩, ⟨"RecordReconciler$KeyTable", "put", "(IIII)V"⟩, ⟨"RecordReconciler$Book", "openNextBatch", "()V"⟩, ⟨"RecordReconciler$Book", "countBatch", "()I"⟩],
  [⟨"RecordReconciler$Book", "forgetBatch", "()I"⟩, ⟨"RecordReconciler$KeyTable", "level", "(II)I"⟩, ⟨"RecordReconciler$Book", "settleFor", "(II)I"⟩, ⟨"RecordReconciler$KeyTable", "remove", "(II)V"⟩, ⟨"RecordReconciler$Book", "dropRecord", "(II)I"⟩, ⟨"RecordReconciler$Book", "carryOut", "(ICII)I"⟩, ⟨"RecordReconciler", "change", "(ICII)I"⟩, ⟨"RecordReconciler", "closeBatch", "()I"⟩, ⟨"RecordReconciler", "closedTotal", "()I"⟩, ⟨"RecordReconciler$KeyTable", "countWithStatus", "(C)I"⟩, ⟨"RecordReconciler", "confirmedCount", "()I"⟩, ⟨"RecordReconciler", "confirmedShare", "()F"⟩, ⟨"RecordReconciler", "correctionTotal", "()I"⟩, ⟨"RecordReconciler", "day", "()I"⟩, ⟨"RecordReconciler", "dayOf", "(CI)I"⟩, ⟨"RecordReconciler$KeyTable", "disputedRow", "(I)I"⟩],
  [⟨"RecordReconciler", "disputedAt", "(I)I"⟩, ⟨"RecordReconciler", "disputedCount", "()I"⟩, ⟨"RecordReconciler", "drop", "(CI)I"⟩, ⟨"RecordReconciler", "droppedTotal", "()I"⟩, ⟨"RecordReconciler", "duplicateTotal", "()I"⟩, ⟨"RecordReconciler", "errorPosition", "()I"⟩, ⟨"RecordReconciler", "executeProgram", "()I"⟩, ⟨"RecordReconciler", "failedCommand", "()I"⟩, ⟨"jdk/internal/util/ArraysSupport", "newLength", "(III)I"⟩, ⟨"java/lang/AbstractStringBuilder", "newCapacity", "(I)I"⟩, ⟨"java/util/Arrays", "copyOf", "([BI)[B"⟩, ⟨"java/lang/AbstractStringBuilder", "ensureCapacityInternal", "(I)V"⟩, ⟨"java/lang/AbstractStringBuilder", "isLatin1", "()Z"⟩, ⟨"java/lang/AbstractStringBuilder", "setLength", "(I)V"⟩, ⟨"java/lang/StringBuilder", "setLength", "(I)V"⟩, ⟨"java/lang/StringLatin1", "canEncode", "(C)Z"⟩],
  [⟨"java/lang/AbstractStringBuilder", "append", "(C)Ljava/lang/AbstractStringBuilder;"⟩, ⟨"java/lang/StringBuilder", "append", "(C)Ljava/lang/StringBuilder;"⟩, ⟨"RecordReconciler", "letterOf", "(I)C"⟩, ⟨"java/lang/Integer", "stringSize", "(I)I"⟩, ⟨"java/lang/Integer", "getChars", "(II[B)I"⟩, ⟨"java/lang/AbstractStringBuilder", "append", "(I)Ljava/lang/AbstractStringBuilder;"⟩, ⟨"java/lang/StringBuilder", "append", "(I)Ljava/lang/StringBuilder;"⟩, ⟨"java/lang/AbstractStringBuilder", "length", "()I"⟩, ⟨"java/lang/StringBuilder", "length", "()I"⟩, ⟨"RecordReconciler", "formatBatch", "()I"⟩, ⟨"java/lang/String", "coder", "()B"⟩, ⟨"java/lang/String", "length", "()I"⟩, ⟨"java/lang/AbstractStringBuilder", "inflateIfNeededFor", "(Ljava/lang/String;)V"⟩, ⟨"java/lang/String", "getBytes", "([BIB)V"⟩, ⟨"java/lang/AbstractStringBuilder", "putStringAt", "(ILjava/lang/String;)V"⟩, ⟨"java/lang/AbstractStringBuilder", "append", "(Ljava/lang/String;)Ljava/lang/AbstractStringBuilder;"⟩],
  [⟨"java/lang/StringBuilder", "append", "(Ljava/lang/String;)Ljava/lang/StringBuilder;"⟩, ⟨"RecordReconciler", "formatKey", "(I)I"⟩, ⟨"RecordReconciler", "formatRecord", "(CI)I"⟩, ⟨"RecordReconciler$KeyTable", "isPossible", "(IIII)Z"⟩, ⟨"RecordReconciler$KeyTable", "areLinked", "(II)Z"⟩, ⟨"RecordReconciler$Groups", "load", "(LRecordReconciler$KeyTable;)V"⟩, ⟨"RecordReconciler$Groups", "rootOf", "(I)I"⟩, ⟨"RecordReconciler$Groups", "unite", "(II)Z"⟩, ⟨"RecordReconciler$Groups", "countByUniting", "()I"⟩, ⟨"RecordReconciler", "groupCount", "()I"⟩, ⟨"RecordReconciler$Groups", "reachedFrom", "(I)I"⟩, ⟨"RecordReconciler$Groups", "countBySearching", "()I"⟩, ⟨"RecordReconciler", "groupCountBySearch", "()I"⟩, ⟨"RecordReconciler$KeyTable", "recordsIn", "(I)I"⟩, ⟨"RecordReconciler", "groupSize", "(CI)I"⟩, ⟨"RecordReconciler", "hasRecord", "(CI)Z"⟩],
  [⟨"RecordReconciler$Matching", "load", "(LRecordReconciler$KeyTable;II)V"⟩, ⟨"RecordReconciler$Matching", "matchBackFrom", "(I)V"⟩, ⟨"RecordReconciler$Matching", "findMateFor", "(I)Z"⟩, ⟨"RecordReconciler$Matching", "growOneByOne", "()I"⟩, ⟨"RecordReconciler", "sizeOneByOne", "(II)I"⟩, ⟨"RecordReconciler$Matching", "layOutNext", "(II)I"⟩, ⟨"RecordReconciler$Matching", "layOut", "()Z"⟩, ⟨"RecordReconciler$Matching", "nextTry", "(I)I"⟩, ⟨"RecordReconciler$Matching", "descendFrom", "(I)Z"⟩, ⟨"RecordReconciler$Matching", "growInRounds", "()I"⟩, ⟨"RecordReconciler", "sizeInRounds", "(II)I"⟩, ⟨"RecordReconciler", "isConsistent", "()Z"⟩, ⟨"RecordReconciler", "requireOther", "(CC)I"⟩, ⟨"RecordReconciler$Matching", "leaveOut", "(I)V"⟩, ⟨"RecordReconciler", "isNeeded", "(CIC)Z"⟩, ⟨"RecordReconciler", "isPossiblePair", "(CICI)Z"⟩],
  [⟨"RecordReconciler$KeyTable", "rowAt", "(II)I"⟩, ⟨"RecordReconciler", "keyAt", "(CI)I"⟩, ⟨"jdk/internal/util/Preconditions", "checkIndex", "(IILjava/util/function/BiFunction;)I"⟩, ⟨"java/lang/String", "checkIndex", "(II)V"⟩, ⟨"java/lang/AbstractStringBuilder", "charAt", "(I)C"⟩, ⟨"java/lang/StringBuilder", "charAt", "(I)C"⟩, ⟨"RecordReconciler", "lineChar", "(I)C"⟩, ⟨"RecordReconciler", "matchingSize", "(CC)I"⟩, ⟨"RecordReconciler", "matchingSizeByLayers", "(CC)I"⟩, ⟨"RecordReconciler$KeyTable", "sumOf", "(I)I"⟩, ⟨"RecordReconciler", "meanAmount", "()D"⟩, ⟨"RecordReconciler", "mostTrusted", "()C"⟩, ⟨"RecordReconciler", "newTotal", "()I"⟩, ⟨"RecordReconciler$KeyTable", "oldestRow", "(I)I"⟩, ⟨"RecordReconciler", "oldestKey", "(C)I"⟩, ⟨"RecordReconciler", "openCount", "()I"⟩],
  [⟨"RecordReconciler", "requireReport", "(I)V"⟩, ⟨"RecordReconciler", "outcomeOf", "(I)C"⟩, ⟨"RecordReconciler", "pass", "(I)I"⟩, ⟨"java/lang/Integer", "bitCount", "(I)I"⟩, ⟨"RecordReconciler$Matching", "pairCount", "()I"⟩, ⟨"RecordReconciler", "possiblePairs", "(CC)I"⟩, ⟨"RecordReconciler", "recordCount", "()I"⟩, ⟨"RecordReconciler$KeyTable", "countOf", "(I)I"⟩, ⟨"RecordReconciler", "recordsOf", "(C)I"⟩, ⟨"RecordReconciler", "rejectBatch", "()I"⟩, ⟨"RecordReconciler", "rejectedTotal", "()I"⟩, ⟨"RecordReconciler", "report", "(CII)I"⟩, ⟨"RecordReconciler", "reportAmount", "(I)I"⟩, ⟨"RecordReconciler", "reportCount", "()I"⟩, ⟨"RecordReconciler", "reportKey", "(I)I"⟩, ⟨"RecordReconciler", "reportSource", "(I)C"⟩],
  [⟨"RecordReconciler", "restore", "()I"⟩, ⟨"RecordReconciler$Program", "keywordOf", "(I)Ljava/lang/String;"⟩, ⟨"java/lang/String", "isLatin1", "()Z"⟩, ⟨"java/lang/StringLatin1", "charAt", "([BI)C"⟩, ⟨"java/lang/String", "charAt", "(I)C"⟩, ⟨"RecordReconciler$Program", "commonLength", "(Ljava/lang/String;)I"⟩, ⟨"RecordReconciler$Program", "readKeyword", "()I"⟩, ⟨"RecordReconciler$Program", "readSource", "(I)Z"⟩, ⟨"RecordReconciler$Program", "readNumber", "(I)I"⟩, ⟨"RecordReconciler$Program", "readKey", "(I)Z"⟩, ⟨"RecordReconciler$Program", "skip", "(C)Z"⟩, ⟨"RecordReconciler$Program", "readAmount", "(I)Z"⟩, ⟨"RecordReconciler$Program", "readCommand", "(I)Z"⟩, ⟨"RecordReconciler$Program", "parse", "()I"⟩, ⟨"RecordReconciler", "run", "()I"⟩, ⟨"RecordReconciler", "save", "()I"⟩],
  [⟨"RecordReconciler", "settle", "(CI)I"⟩, ⟨"RecordReconciler", "settledTotal", "()I"⟩, ⟨"RecordReconciler", "statusOf", "(I)C"⟩, ⟨"RecordReconciler", "totalOf", "(C)I"⟩, ⟨"RecordReconciler", "trustOf", "(C)I"⟩, ⟨"RecordReconciler$History", "takeBack", "(LRecordReconciler$Book;)I"⟩, ⟨"RecordReconciler", "undo", "()I"⟩, ⟨"RecordReconciler", "undoableCount", "()I"⟩, ⟨"RecordReconciler", "withdraw", "(CII)I"⟩, ⟨"RecordReconcilerLaw", "acceptedAmount", "(LRecordReconciler;I[J)I"⟩, ⟨"RecordReconcilerLaw", "amountOf", "(LRecordReconciler;CI[J)I"⟩, ⟨"RecordReconcilerLaw", "append", "(LRecordReconciler;C[J)I"⟩, ⟨"RecordReconcilerLaw", "closeBatch", "(LRecordReconciler;[J)I"⟩, ⟨"RecordReconcilerLaw", "confirmedShare", "(LRecordReconciler;[D)I"⟩, ⟨"RecordReconcilerLaw", "dayOf", "(LRecordReconciler;CI[J)I"⟩, ⟨"RecordReconcilerLaw", "disputedAt", "(LRecordReconciler;I[J)I"⟩],
  [⟨"RecordReconcilerLaw", "drop", "(LRecordReconciler;CI[J)I"⟩, ⟨"RecordReconcilerLaw", "errorPosition", "(LRecordReconciler;[J)I"⟩, ⟨"RecordReconcilerLaw", "failedCommand", "(LRecordReconciler;[J)I"⟩, ⟨"RecordReconcilerLaw", "formatKey", "(LRecordReconciler;I[J)I"⟩, ⟨"RecordReconcilerLaw", "formatRecord", "(LRecordReconciler;CI[J)I"⟩, ⟨"RecordReconcilerLaw", "groupSize", "(LRecordReconciler;CI[J)I"⟩, ⟨"RecordReconcilerLaw", "hasRecord", "(LRecordReconciler;CI[J)I"⟩, ⟨"RecordReconcilerLaw", "isNeeded", "(LRecordReconciler;CIC[J)I"⟩, ⟨"RecordReconcilerLaw", "isPossiblePair", "(LRecordReconciler;CICI[J)I"⟩, ⟨"RecordReconcilerLaw", "keyAt", "(LRecordReconciler;CI[J)I"⟩, ⟨"RecordReconcilerModel", "<init>", "()V"⟩, ⟨"RecordReconcilerLaw", "report", "(LRecordReconciler;CII[J)I"⟩, ⟨"RecordReconcilerModel", "copies", "([II[II)V"⟩, ⟨"RecordReconcilerModel", "begins", "()V"⟩, ⟨"RecordReconcilerModel", "isIn", "(III)Z"⟩, ⟨"RecordReconcilerModel", "isSource", "(I)Z"⟩],
  [⟨"RecordReconcilerModel", "isKey", "(I)Z"⟩, ⟨"RecordReconcilerModel", "isReport", "(III)Z"⟩, ⟨"RecordReconcilerModel", "holds", "(ZZZ)Z"⟩, ⟨"RecordReconcilerModel", "reports", "(III)I"⟩, ⟨"RecordReconcilerModel", "remembers", "()V"⟩, ⟨"RecordReconcilerModel", "ends", "(I)I"⟩, ⟨"RecordReconcilerModel", "report", "(CII)I"⟩, ⟨"RecordReconcilerModel", "thrown", "()I"⟩, ⟨"RecordReconcilerLaw", "withdraw", "(LRecordReconciler;CII[J)I"⟩, ⟨"RecordReconcilerModel", "ofReport", "(II)I"⟩, ⟨"RecordReconcilerModel", "takes", "(III)I"⟩, ⟨"RecordReconcilerModel", "withdraw", "(CII)I"⟩, ⟨"RecordReconcilerModel", "of", "(II)I"⟩, ⟨"RecordReconcilerModel", "find", "(II)I"⟩, ⟨"RecordReconcilerModel", "outcome", "(I)I"⟩, ⟨"RecordReconcilerModel", "outcomes", "(I)I"⟩],
  [⟨"RecordReconcilerModel", "closes", "()Z"⟩, ⟨"RecordReconcilerModel", "goes", "(Z)Z"⟩, ⟨"RecordReconcilerModel", "inserts", "(II)V"⟩, ⟨"RecordReconcilerModel", "carries", "(III)V"⟩, ⟨"RecordReconcilerModel", "closesAll", "()I"⟩, ⟨"RecordReconcilerModel", "closeBatch", "()I"⟩, ⟨"RecordReconcilerModel", "rejects", "()I"⟩, ⟨"RecordReconcilerModel", "rejectBatch", "()I"⟩, ⟨"RecordReconcilerLaw", "settle", "(LRecordReconciler;CI[J)I"⟩, ⟨"RecordReconcilerModel", "withKey", "(I)I"⟩, ⟨"RecordReconcilerModel", "withAmount", "(II)I"⟩, ⟨"RecordReconcilerModel", "accepted", "(I)I"⟩, ⟨"RecordReconcilerModel", "status", "(I)I"⟩, ⟨"RecordReconcilerModel", "settles", "(II)I"⟩, ⟨"RecordReconcilerModel", "settle", "(CI)I"⟩, ⟨"RecordReconcilerModel", "drops", "(II)I"⟩],
  [⟨"RecordReconcilerModel", "drop", "(CI)I"⟩, ⟨"RecordReconcilerLaw", "pass", "(LRecordReconciler;I[J)I"⟩, ⟨"RecordReconcilerModel", "waits", "(I)I"⟩, ⟨"RecordReconcilerModel", "pass", "(I)I"⟩, ⟨"RecordReconcilerModel", "total", "(I)I"⟩, ⟨"RecordReconcilerModel", "day", "()I"⟩, ⟨"RecordReconcilerModel", "reportCount", "()I"⟩, ⟨"RecordReconcilerLaw", "reportSource", "(LRecordReconciler;I[J)I"⟩, ⟨"RecordReconcilerModel", "asksReport", "(II)I"⟩, ⟨"RecordReconcilerModel", "reportSource", "(I)C"⟩, ⟨"RecordReconcilerLaw", "reportKey", "(LRecordReconciler;I[J)I"⟩, ⟨"RecordReconcilerModel", "reportKey", "(I)I"⟩, ⟨"RecordReconcilerLaw", "reportAmount", "(LRecordReconciler;I[J)I"⟩, ⟨"RecordReconcilerModel", "reportAmount", "(I)I"⟩, ⟨"RecordReconcilerLaw", "outcomeOf", "(LRecordReconciler;I[J)I"⟩, ⟨"RecordReconcilerModel", "outcomeOf", "(I)C"⟩],
  [⟨"RecordReconcilerModel", "canClose", "()Z"⟩, ⟨"RecordReconcilerModel", "recordCount", "()I"⟩, ⟨"RecordReconcilerLaw", "recordsOf", "(LRecordReconciler;C[J)I"⟩, ⟨"RecordReconcilerModel", "ofSource", "(I)I"⟩, ⟨"RecordReconcilerModel", "recordsOf", "(C)I"⟩, ⟨"RecordReconcilerModel", "hasRecord", "(CI)Z"⟩, ⟨"RecordReconcilerModel", "asks", "(III)I"⟩, ⟨"RecordReconcilerModel", "amountOf", "(CI)I"⟩, ⟨"RecordReconcilerModel", "dayOf", "(CI)I"⟩, ⟨"RecordReconcilerModel", "keyAt", "(CI)I"⟩, ⟨"RecordReconcilerLaw", "oldestKey", "(LRecordReconciler;C[J)I"⟩, ⟨"RecordReconcilerModel", "oldestKey", "(C)I"⟩, ⟨"RecordReconcilerLaw", "statusOf", "(LRecordReconciler;I[J)I"⟩, ⟨"RecordReconcilerModel", "statusOf", "(I)C"⟩, ⟨"RecordReconcilerModel", "isFirst", "(I)Z"⟩, ⟨"RecordReconcilerModel", "keysOf", "(I)I"⟩],
  [⟨"RecordReconcilerModel", "countOf", "(I)I"⟩, ⟨"RecordReconcilerModel", "confirmedCount", "()I"⟩, ⟨"RecordReconcilerModel", "disputedCount", "()I"⟩, ⟨"RecordReconcilerModel", "openCount", "()I"⟩, ⟨"RecordReconcilerModel", "disputedAt", "(I)I"⟩, ⟨"RecordReconcilerModel", "acceptedAmount", "(I)I"⟩, ⟨"RecordReconcilerModel", "acceptedTotal", "()I"⟩, ⟨"RecordReconcilerLaw", "totalOf", "(LRecordReconciler;C[J)I"⟩, ⟨"RecordReconcilerModel", "sumOf", "(I)I"⟩, ⟨"RecordReconcilerModel", "totalOf", "(C)I"⟩, ⟨"RecordReconcilerModel", "areTwo", "(II)Z"⟩, ⟨"RecordReconcilerModel", "isPair", "(II)Z"⟩, ⟨"RecordReconcilerModel", "isPossiblePair", "(CICI)Z"⟩, ⟨"RecordReconcilerLaw", "possiblePairs", "(LRecordReconciler;CC[J)I"⟩, ⟨"RecordReconcilerModel", "possiblePairs", "(CC)I"⟩, ⟨"RecordReconcilerLaw", "matchingSize", "(LRecordReconciler;CC[J)I"⟩],
  [⟨"RecordReconcilerModel", "turns", "(II)V"⟩, ⟨"RecordReconcilerModel", "augments", "(II)Z"⟩, ⟨"RecordReconcilerModel", "matches", "(III)I"⟩, ⟨"RecordReconcilerModel", "matching", "(II)I"⟩, ⟨"RecordReconcilerModel", "matchingSize", "(CC)I"⟩, ⟨"RecordReconcilerLaw", "matchingSizeByLayers", "(LRecordReconciler;CC[J)I"⟩, ⟨"RecordReconcilerModel", "matchingSizeByLayers", "(CC)I"⟩, ⟨"RecordReconcilerModel", "isNeeded", "(CIC)Z"⟩, ⟨"RecordReconcilerModel", "isLinked", "(II)Z"⟩, ⟨"RecordReconcilerModel", "finds", "()V"⟩, ⟨"RecordReconcilerModel", "groupsAll", "()I"⟩, ⟨"RecordReconcilerModel", "groupCount", "()I"⟩, ⟨"RecordReconcilerModel", "groupCountBySearch", "()I"⟩, ⟨"RecordReconcilerModel", "groupSize", "(CI)I"⟩, ⟨"RecordReconcilerLaw", "trustOf", "(LRecordReconciler;C[J)I"⟩, ⟨"RecordReconcilerModel", "trustOf", "(C)I"⟩],
  [⟨"RecordReconcilerModel", "mostTrusted", "()C"⟩, ⟨"RecordReconcilerModel", "duplicateTotal", "()I"⟩, ⟨"RecordReconcilerModel", "correctionTotal", "()I"⟩, ⟨"RecordReconcilerModel", "newTotal", "()I"⟩, ⟨"RecordReconcilerModel", "droppedTotal", "()I"⟩, ⟨"RecordReconcilerModel", "closedTotal", "()I"⟩, ⟨"RecordReconcilerModel", "rejectedTotal", "()I"⟩, ⟨"RecordReconcilerModel", "settledTotal", "()I"⟩, ⟨"RecordReconcilerLaw", "meanAmount", "(LRecordReconciler;[D)I"⟩, ⟨"RecordReconcilerModel", "meanAmount", "()D"⟩, ⟨"RecordReconcilerModel", "confirmedShare", "()F"⟩, ⟨"RecordReconcilerModel", "isConsistent", "()Z"⟩, ⟨"RecordReconcilerModel", "put", "(II)I"⟩, ⟨"RecordReconcilerModel", "writesNumber", "(II)I"⟩, ⟨"RecordReconcilerModel", "formatRecord", "(CI)I"⟩, ⟨"RecordReconcilerModel", "writes", "(III)I"⟩],
  [⟨"RecordReconcilerModel", "formatKey", "(I)I"⟩, ⟨"RecordReconcilerModel", "formatBatch", "()I"⟩, ⟨"RecordReconcilerLaw", "lineChar", "(LRecordReconciler;I[J)I"⟩, ⟨"RecordReconcilerModel", "lineChar", "(I)C"⟩, ⟨"RecordReconcilerModel", "append", "(C)I"⟩, ⟨"RecordReconcilerLaw", "run", "(LRecordReconciler;[J)I"⟩, ⟨"RecordReconcilerModel", "startOf", "(I)I"⟩, ⟨"RecordReconcilerModel", "kindHere", "()I"⟩, ⟨"RecordReconcilerModel", "letterHere", "()I"⟩, ⟨"RecordReconcilerModel", "reads", "(II)I"⟩, ⟨"RecordReconcilerModel", "number", "(I)I"⟩, ⟨"RecordReconcilerModel", "readsCommand", "()V"⟩, ⟨"RecordReconcilerModel", "readsAll", "()V"⟩, ⟨"RecordReconcilerModel", "does", "(I)I"⟩, ⟨"RecordReconcilerModel", "run", "()I"⟩, ⟨"RecordReconcilerModel", "errorPosition", "()I"⟩],
  [⟨"RecordReconcilerModel", "failedCommand", "()I"⟩, ⟨"RecordReconcilerModel", "undoableCount", "()I"⟩, ⟨"RecordReconcilerLaw", "undo", "(LRecordReconciler;[J)I"⟩, ⟨"RecordReconcilerModel", "undo", "()I"⟩, ⟨"RecordReconcilerModel", "save", "()I"⟩, ⟨"RecordReconcilerLaw", "restore", "(LRecordReconciler;[J)I"⟩, ⟨"RecordReconcilerModel", "restore", "()I"⟩, ⟨"RecordReconcilerLaw", "law", "([I)Z"⟩]]

noncomputable def ybA : List (List (ByteArray)) := [[prog_6_method_1_code, prog_2_method_1_code, prog_3_method_1_code, prog_5_method_1_code, prog_8_method_1_code, prog_7_method_1_code, prog_4_method_1_code, prog_12_method_2_code, prog_28_method_1_code, prog_1_method_1_code, prog_1_method_70_code, prog_1_method_73_code, prog_6_method_3_code, prog_1_method_75_code, prog_6_method_20_code, prog_6_method_19_code],
  [prog_1_method_30_code, prog_1_method_31_code, prog_1_method_68_code, prog_1_method_71_code, prog_6_method_4_code, prog_1_method_74_code, prog_1_method_21_code, prog_8_method_2_code, prog_1_method_59_code, prog_2_method_6_code, prog_6_method_5_code, prog_3_method_7_code, prog_3_method_8_code, prog_1_method_17_code, prog_3_method_4_code, prog_2_method_4_code],
  [prog_6_method_10_code, prog_6_method_16_code, prog_3_method_5_code, prog_3_method_3_code, prog_1_method_10_code, prog_6_method_2_code, prog_2_method_2_code, prog_3_method_2_code, prog_5_method_2_code, prog_2_method_3_code, prog_2_method_5_code, prog_6_method_8_code, prog_6_method_7_code, prog_6_method_6_code, prog_3_method_11_code, prog_3_method_9_code],
  [prog_3_method_10_code, prog_6_method_21_code, prog_3_method_12_code, prog_6_method_9_code, prog_3_method_13_code, prog_3_method_6_code, prog_1_method_9_code, prog_1_method_4_code, prog_1_method_49_code, prog_6_method_17_code, prog_1_method_26_code, prog_1_method_53_code, prog_1_method_46_code, prog_1_method_11_code, prog_1_method_22_code, prog_6_method_18_code],
  [prog_1_method_29_code, prog_1_method_27_code, prog_1_method_7_code, prog_1_method_48_code, prog_1_method_45_code, prog_1_method_62_code, prog_1_method_61_code, prog_1_method_63_code, prog_38_method_27_code, prog_12_method_10_code, prog_36_method_121_code, prog_12_method_9_code, prog_12_method_68_code, prog_12_method_13_code, prog_28_method_89_code, prog_30_method_3_code],
  [prog_12_method_31_code, prog_28_method_14_code, prog_1_method_69_code, prog_23_method_13_code, prog_23_method_12_code, prog_12_method_32_code, prog_28_method_15_code, prog_12_method_6_code, prog_28_method_93_code, prog_1_method_57_code, prog_27_method_152_code, prog_27_method_54_code, prog_12_method_71_code, prog_27_method_147_code, prog_12_method_73_code, prog_12_method_22_code],
  [prog_28_method_7_code, prog_1_method_56_code, prog_1_method_55_code, prog_6_method_22_code, prog_6_method_23_code, prog_4_method_2_code, prog_4_method_5_code, prog_4_method_4_code, prog_4_method_3_code, prog_1_method_40_code, prog_4_method_7_code, prog_4_method_6_code, prog_1_method_41_code, prog_6_method_13_code, prog_1_method_42_code, prog_1_method_20_code],
  [prog_7_method_2_code, prog_7_method_7_code, prog_7_method_6_code, prog_7_method_5_code, prog_1_method_38_code, prog_7_method_10_code, prog_7_method_9_code, prog_7_method_12_code, prog_7_method_11_code, prog_7_method_8_code, prog_1_method_39_code, prog_1_method_54_code, prog_1_method_72_code, prog_7_method_3_code, prog_1_method_37_code, prog_1_method_33_code],
  [prog_6_method_14_code, prog_1_method_23_code, prog_39_method_11_code, prog_27_method_155_code, prog_12_method_14_code, prog_28_method_88_code, prog_1_method_58_code, prog_1_method_35_code, prog_1_method_36_code, prog_6_method_12_code, prog_1_method_52_code, prog_1_method_44_code, prog_1_method_47_code, prog_6_method_15_code, prog_1_method_24_code, prog_1_method_28_code],
  [prog_1_method_76_code, prog_1_method_16_code, prog_1_method_8_code, prog_23_method_49_code, prog_7_method_4_code, prog_1_method_34_code, prog_1_method_18_code, prog_6_method_11_code, prog_1_method_19_code, prog_1_method_5_code, prog_1_method_50_code, prog_1_method_2_code, prog_1_method_15_code, prog_1_method_12_code, prog_1_method_14_code, prog_1_method_13_code],
  [prog_1_method_67_code, prog_8_method_6_code, prog_27_method_154_code, prog_30_method_2_code, prog_27_method_56_code, prog_8_method_7_code, prog_8_method_5_code, prog_8_method_9_code, prog_8_method_12_code, prog_8_method_10_code, prog_8_method_8_code, prog_8_method_11_code, prog_8_method_4_code, prog_8_method_3_code, prog_1_method_60_code, prog_1_method_66_code],
  [prog_1_method_6_code, prog_1_method_51_code, prog_1_method_25_code, prog_1_method_32_code, prog_1_method_43_code, prog_5_method_3_code, prog_1_method_65_code, prog_1_method_64_code, prog_1_method_3_code, method_21_code, method_15_code, method_35_code, method_5_code, method_31_code, method_16_code, method_20_code],
  [method_7_code, method_37_code, method_38_code, method_33_code, method_32_code, method_28_code, method_14_code, method_27_code, method_23_code, method_17_code, prog_10_method_1_code, method_3_code, prog_10_method_4_code, prog_10_method_7_code, prog_10_method_3_code, prog_10_method_14_code],
  [prog_10_method_15_code, prog_10_method_16_code, prog_10_method_5_code, prog_10_method_23_code, prog_10_method_8_code, prog_10_method_9_code, prog_10_method_24_code, prog_10_method_2_code, method_4_code, prog_10_method_18_code, prog_10_method_25_code, prog_10_method_26_code, prog_10_method_17_code, prog_10_method_19_code, prog_10_method_20_code, prog_10_method_21_code],
  [prog_10_method_22_code, prog_10_method_6_code, prog_10_method_27_code, prog_10_method_29_code, prog_10_method_28_code, prog_10_method_30_code, prog_10_method_31_code, prog_10_method_32_code, method_6_code, prog_10_method_57_code, prog_10_method_58_code, prog_10_method_59_code, prog_10_method_60_code, prog_10_method_33_code, prog_10_method_34_code, prog_10_method_35_code],
  [prog_10_method_36_code, method_8_code, prog_10_method_37_code, prog_10_method_38_code, prog_10_method_39_code, prog_10_method_40_code, prog_10_method_41_code, method_9_code, prog_10_method_42_code, prog_10_method_43_code, method_10_code, prog_10_method_44_code, method_11_code, prog_10_method_45_code, method_12_code, prog_10_method_46_code],
  [prog_10_method_47_code, prog_10_method_48_code, method_13_code, prog_10_method_49_code, prog_10_method_50_code, prog_10_method_51_code, prog_10_method_52_code, prog_10_method_53_code, prog_10_method_54_code, prog_10_method_55_code, method_18_code, prog_10_method_56_code, method_19_code, prog_10_method_62_code, prog_10_method_61_code, prog_10_method_63_code],
  [prog_10_method_64_code, prog_10_method_65_code, prog_10_method_66_code, prog_10_method_67_code, prog_10_method_68_code, prog_10_method_69_code, prog_10_method_70_code, method_22_code, prog_10_method_71_code, prog_10_method_72_code, prog_10_method_74_code, prog_10_method_73_code, prog_10_method_75_code, method_24_code, prog_10_method_76_code, method_25_code],
  [prog_10_method_79_code, prog_10_method_78_code, prog_10_method_77_code, prog_10_method_80_code, prog_10_method_81_code, method_26_code, prog_10_method_82_code, prog_10_method_83_code, prog_10_method_84_code, prog_10_method_85_code, prog_10_method_86_code, prog_10_method_87_code, prog_10_method_88_code, prog_10_method_89_code, method_29_code, prog_10_method_90_code],
  [prog_10_method_91_code, prog_10_method_92_code, prog_10_method_93_code, prog_10_method_94_code, prog_10_method_95_code, prog_10_method_96_code, prog_10_method_97_code, prog_10_method_98_code, method_30_code, prog_10_method_99_code, prog_10_method_100_code, prog_10_method_101_code, prog_10_method_102_code, prog_10_method_104_code, prog_10_method_105_code, prog_10_method_103_code],
  [prog_10_method_106_code, prog_10_method_107_code, method_34_code, prog_10_method_108_code, prog_10_method_109_code, method_36_code, prog_10_method_113_code, prog_10_method_114_code, prog_10_method_110_code, prog_10_method_111_code, prog_10_method_112_code, prog_10_method_115_code, prog_10_method_116_code, prog_10_method_117_code, prog_10_method_118_code, prog_10_method_119_code],
  [prog_10_method_120_code, prog_10_method_10_code, method_39_code, prog_10_method_11_code, prog_10_method_12_code, method_40_code, prog_10_method_13_code, code]]

noncomputable def yrA : List (List (Option FieldType)) := [[none, none, none, none, none, none, none, none, none, none, (some .boolean), none, (some .int), (some .int), (some .int), (some .int)],
  [(some .int), (some .int), (some .int), (some .int), (some .int), (some .int), (some .int), (some .int), (some .int), (some .int), (some .int), (some .char), (some .boolean), (some .boolean), (some .boolean), (some .int)],
  [(some .int), (some .char), (some .int), (some .int), none, none, none, none, none, (some .int), (some .int), none, (some .int), none, none, (some .int)],
  [(some .int), (some .int), (some .int), none, (some .int), (some .int), (some .int), (some .int), (some .int), (some .int), (some .int), (some .float), (some .int), (some .int), (some .int), (some .int)],
  [(some .int), (some .int), (some .int), (some .int), (some .int), (some .int), (some .int), (some .int), (some .int), (some .int), (some (.array .byte)), none, (some .boolean), none, none, (some .boolean)],
  [(some (.object "java/lang/AbstractStringBuilder")), (some (.object "java/lang/StringBuilder")), (some .char), (some .int), (some .int), (some (.object "java/lang/AbstractStringBuilder")), (some (.object "java/lang/StringBuilder")), (some .int), (some .int), (some .int), (some .byte), (some .int), none, none, none, (some (.object "java/lang/AbstractStringBuilder"))],
  [(some (.object "java/lang/StringBuilder")), (some .int), (some .int), (some .boolean), (some .boolean), none, (some .int), (some .boolean), (some .int), (some .int), (some .int), (some .int), (some .int), (some .int), (some .int), (some .boolean)],
  [none, none, (some .boolean), (some .int), (some .int), (some .int), (some .boolean), (some .int), (some .boolean), (some .int), (some .int), (some .boolean), (some .int), none, (some .boolean), (some .boolean)],
  [(some .int), (some .int), (some .int), none, (some .char), (some .char), (some .char), (some .int), (some .int), (some .int), (some .double), (some .char), (some .int), (some .int), (some .int), (some .int)],
  [none, (some .char), (some .int), (some .int), (some .int), (some .int), (some .int), (some .int), (some .int), (some .int), (some .int), (some .int), (some .int), (some .int), (some .int), (some .char)],
  [(some .int), (some (.object "java/lang/String")), (some .boolean), (some .char), (some .char), (some .int), (some .int), (some .boolean), (some .int), (some .boolean), (some .boolean), (some .boolean), (some .boolean), (some .int), (some .int), (some .int)],
  [(some .int), (some .int), (some .char), (some .int), (some .int), (some .int), (some .int), (some .int), (some .int), (some .int), (some .int), (some .int), (some .int), (some .int), (some .int), (some .int)],
  [(some .int), (some .int), (some .int), (some .int), (some .int), (some .int), (some .int), (some .int), (some .int), (some .int), none, (some .int), none, none, (some .boolean), (some .boolean)],
  [(some .boolean), (some .boolean), (some .boolean), (some .int), none, (some .int), (some .int), (some .int), (some .int), (some .int), (some .int), (some .int), (some .int), (some .int), (some .int), (some .int)],
  [(some .boolean), (some .boolean), none, none, (some .int), (some .int), (some .int), (some .int), (some .int), (some .int), (some .int), (some .int), (some .int), (some .int), (some .int), (some .int)],
  [(some .int), (some .int), (some .int), (some .int), (some .int), (some .int), (some .int), (some .int), (some .int), (some .char), (some .int), (some .int), (some .int), (some .int), (some .int), (some .char)],
  [(some .boolean), (some .int), (some .int), (some .int), (some .int), (some .boolean), (some .int), (some .int), (some .int), (some .int), (some .int), (some .int), (some .int), (some .char), (some .boolean), (some .int)],
  [(some .int), (some .int), (some .int), (some .int), (some .int), (some .int), (some .int), (some .int), (some .int), (some .int), (some .boolean), (some .boolean), (some .boolean), (some .int), (some .int), (some .int)],
  [none, (some .boolean), (some .int), (some .int), (some .int), (some .int), (some .int), (some .boolean), (some .boolean), none, (some .int), (some .int), (some .int), (some .int), (some .int), (some .int)],
  [(some .char), (some .int), (some .int), (some .int), (some .int), (some .int), (some .int), (some .int), (some .int), (some .double), (some .float), (some .boolean), (some .int), (some .int), (some .int), (some .int)],
  [(some .int), (some .int), (some .int), (some .char), (some .int), (some .int), (some .int), (some .int), (some .int), (some .int), (some .int), none, none, (some .int), (some .int), (some .int)],
  [(some .int), (some .int), (some .int), (some .int), (some .int), (some .int), (some .int), (some .boolean)]]

noncomputable def yoA : List (List (Nat)) := [[5, 1, 2, 4, 7, 6, 3, 10, 13, 0, 0, 0, 5, 0, 5, 5],
  [0, 0, 0, 0, 5, 0, 0, 7, 0, 1, 5, 2, 2, 0, 2, 1],
  [5, 5, 2, 2, 0, 5, 1, 2, 4, 1, 1, 5, 5, 5, 2, 2],
  [2, 5, 2, 5, 2, 2, 0, 0, 0, 5, 0, 0, 0, 0, 0, 5],
  [0, 0, 0, 0, 0, 0, 0, 0, 16, 10, 15, 10, 10, 10, 13, 14],
  [10, 13, 0, 11, 11, 10, 13, 10, 13, 0, 12, 12, 10, 12, 10, 10],
  [13, 0, 0, 5, 5, 3, 3, 3, 3, 0, 3, 3, 0, 5, 0, 0],
  [6, 6, 6, 6, 0, 6, 6, 6, 6, 6, 0, 0, 0, 6, 0, 0],
  [5, 0, 17, 12, 10, 13, 0, 0, 0, 5, 0, 0, 0, 5, 0, 0],
  [0, 0, 0, 11, 6, 0, 0, 5, 0, 0, 0, 0, 0, 0, 0, 0],
  [0, 7, 12, 14, 12, 7, 7, 7, 7, 7, 7, 7, 7, 7, 0, 0],
  [0, 0, 0, 0, 0, 4, 0, 0, 0, 8, 8, 8, 8, 8, 8, 8],
  [8, 8, 8, 8, 8, 8, 8, 8, 8, 8, 9, 8, 9, 9, 9, 9],
  [9, 9, 9, 9, 9, 9, 9, 9, 8, 9, 9, 9, 9, 9, 9, 9],
  [9, 9, 9, 9, 9, 9, 9, 9, 8, 9, 9, 9, 9, 9, 9, 9],
  [9, 8, 9, 9, 9, 9, 9, 8, 9, 9, 8, 9, 8, 9, 8, 9],
  [9, 9, 8, 9, 9, 9, 9, 9, 9, 9, 8, 9, 8, 9, 9, 9],
  [9, 9, 9, 9, 9, 9, 9, 8, 9, 9, 9, 9, 9, 8, 9, 8],
  [9, 9, 9, 9, 9, 8, 9, 9, 9, 9, 9, 9, 9, 9, 8, 9],
  [9, 9, 9, 9, 9, 9, 9, 9, 8, 9, 9, 9, 9, 9, 9, 9],
  [9, 9, 8, 9, 9, 8, 9, 9, 9, 9, 9, 9, 9, 9, 9, 9],
  [9, 9, 8, 9, 9, 8, 9, 8]]

noncomputable def npA : List (List (Nat)) := [[0, 0, 0, 0, 0, 0, 0, 1, 0, 0, 1, 1, 1, 1, 2, 1],
  [1, 0, 1, 1, 2, 2, 2, 1, 1, 1, 2, 1, 0, 0, 1, 3],
  [1, 1, 2, 4, 1, 1, 1, 1, 1, 3, 1, 2, 1, 4, 0, 0],
  [0, 2, 2, 2, 2, 4, 4, 0, 0, 1, 0, 0, 0, 0, 2, 1],
  [1, 0, 2, 0, 0, 0, 0, 0, 3, 1, 2, 1, 0, 1, 1, 1],
  [1, 1, 1, 1, 3, 1, 1, 0, 0, 0, 0, 0, 1, 3, 2, 1],
  [1, 1, 2, 4, 2, 1, 1, 2, 0, 0, 1, 0, 0, 1, 2, 2],
  [3, 1, 1, 0, 2, 2, 0, 1, 1, 0, 2, 0, 2, 1, 3, 4],
  [2, 2, 3, 2, 1, 1, 1, 2, 2, 1, 0, 0, 0, 1, 1, 0],
  [1, 1, 1, 1, 0, 2, 0, 1, 1, 0, 0, 3, 1, 0, 1, 1],
  [0, 1, 0, 2, 1, 1, 0, 1, 1, 1, 1, 1, 1, 0, 0, 0],
  [2, 0, 1, 1, 1, 1, 0, 0, 3, 3, 4, 3, 2, 2, 4, 3],
  [4, 2, 2, 3, 4, 4, 4, 5, 6, 4, 0, 5, 4, 0, 3, 1],
  [1, 3, 3, 3, 0, 1, 3, 0, 5, 2, 3, 3, 2, 2, 1, 1],
  [0, 1, 2, 3, 0, 0, 0, 0, 4, 1, 2, 1, 1, 2, 2, 2],
  [2, 3, 1, 1, 1, 0, 0, 3, 2, 1, 3, 1, 3, 1, 3, 1],
  [0, 0, 3, 1, 1, 2, 3, 2, 2, 2, 3, 1, 3, 1, 1, 1],
  [1, 0, 0, 0, 1, 1, 0, 3, 1, 1, 2, 2, 4, 4, 2, 4],
  [2, 2, 3, 2, 2, 4, 2, 3, 2, 0, 0, 0, 0, 2, 3, 1],
  [0, 0, 0, 0, 0, 0, 0, 0, 2, 0, 0, 0, 2, 2, 2, 3],
  [1, 0, 3, 1, 1, 2, 1, 0, 0, 2, 1, 0, 0, 1, 0, 0],
  [0, 0, 2, 0, 0, 2, 0, 1]]

noncomputable def hhA : List (List (List (Nat × Nat × Nat × Nat))) := [[[], [], [], [], [], [], [], [], [], [], [], [], [], [], [], []],
  [[], [], [], [], [], [], [], [], [], [], [], [], [], [], [], []],
  [[], [], [], [], [], [], [], [], [], [], [], [], [], [], [], []],
  [[], [], [], [], [], [], [], [], [], [], [], [], [], [], [], []],
  [[], [], [], [], [], [], [], [], [], [], [], [], [], [], [], []],
  [[], [], [], [], [], [], [], [], [], [], [], [], [], [], [], []],
  [[], [], [], [], [], [], [], [], [], [], [], [], [], [], [], []],
  [[], [], [], [], [], [], [], [], [], [], [], [], [], [], [], []],
  [[], [], [], [], [], [], [], [], [], [], [], [], [], [], [], []],
  [[], [], [], [], [], [], [], [], [], [], [], [], [], [], [], []],
  [[], [], [], [], [], [], [], [], [], [], [], [], [], [], [], []],
  [[], [], [], [], [], [], [], [], [], [(0, 9, 12, 13), (0, 9, 15, 20)], [(0, 10, 13, 13), (0, 10, 17, 20)], [(0, 9, 12, 13), (0, 9, 15, 15)], [(0, 8, 11, 15)], [(0, 8, 11, 112)], [(0, 10, 13, 13), (0, 10, 17, 20)], [(0, 9, 12, 20)]],
  [[(0, 10, 13, 13), (0, 10, 17, 20)], [(0, 8, 11, 20)], [(0, 8, 11, 20)], [(0, 9, 12, 13), (0, 9, 15, 20)], [(0, 10, 13, 13), (0, 10, 17, 20)], [(0, 10, 13, 13), (0, 10, 17, 20)], [(0, 17, 20, 13)], [(0, 19, 22, 13), (0, 19, 26, 20)], [(0, 21, 24, 13), (0, 21, 28, 20)], [(0, 10, 13, 13), (0, 10, 17, 41)], [], [(0, 12, 15, 13), (0, 12, 19, 15)], [], [], [], []],
  [[], [], [], [], [], [], [], [], [(0, 12, 15, 13), (0, 12, 19, 20)], [], [], [], [], [], [], []],
  [[], [], [], [], [], [], [], [], [(0, 10, 13, 13), (0, 10, 17, 20), (0, 10, 21, 15)], [], [], [], [], [], [], []],
  [[], [(0, 9, 12, 13)], [], [], [], [], [], [(0, 9, 12, 41)], [], [], [(0, 9, 12, 41)], [], [(0, 9, 12, 41)], [], [(0, 9, 12, 41)], []],
  [[], [], [(0, 9, 12, 13)], [], [], [], [], [], [], [], [(0, 9, 12, 13), (0, 9, 15, 20)], [], [(0, 9, 12, 13), (0, 9, 15, 20)], [], [], []],
  [[], [], [], [], [], [], [], [(0, 9, 12, 13)], [], [], [], [], [], [(0, 10, 13, 13)], [], [(0, 10, 13, 13)]],
  [[], [], [], [], [], [(0, 10, 13, 13)], [], [], [], [], [], [], [], [], [(0, 9, 12, 13)], []],
  [[], [], [], [], [], [], [], [], [(0, 7, 10, 112)], [], [], [], [], [], [], []],
  [[], [], [(0, 9, 12, 41)], [], [], [(0, 8, 11, 13), (0, 8, 14, 15)], [], [], [], [], [], [], [], [], [], []],
  [[], [], [(0, 8, 11, 15)], [], [], [(0, 8, 11, 15)], [], []]]

noncomputable def yn (y : Nat) : MethodName := nth2 ⟨"", "", ""⟩ (nth2 [] ynA (y / 16)) (y % 16)
noncomputable def yb (y : Nat) : ByteArray := nth2 ⟨#[]⟩ (nth2 [] ybA (y / 16)) (y % 16)
noncomputable def yr (y : Nat) : Option FieldType := nth2 none (nth2 [] yrA (y / 16)) (y % 16)
noncomputable def yo (y : Nat) : Nat := nth2 0 (nth2 [] yoA (y / 16)) (y % 16)
noncomputable def np (y : Nat) : Nat := nth2 0 (nth2 [] npA (y / 16)) (y % 16)
noncomputable def hh (y : Nat) : List (Nat × Nat × Nat × Nat) := nth2 [] (nth2 [] hhA (y / 16)) (y % 16)
def fldA : List (Nat × Nat × Nat × Nat × Nat) := [(5, 9, 5, 0, 141), (5, 17, 5, 1, 143), (5, 20, 5, 2, 146), (5, 23, 5, 3, 148), (5, 27, 5, 4, 152), (1, 9, 1, 0, 173), (1, 15, 1, 1, 176), (1, 18, 1, 2, 179), (1, 21, 1, 3, 182), (2, 12, 2, 0, 194), (2, 21, 2, 1, 196), (2, 25, 2, 2, 198), (2, 29, 2, 3, 200), (2, 32, 2, 4, 202), (4, 11, 4, 0, 224), (4, 17, 4, 1, 225), (4, 21, 4, 2, 226), (7, 9, 7, 0, 241), (7, 15, 7, 1, 242), (7, 19, 7, 2, 244), (7, 23, 7, 3, 246), (7, 26, 7, 4, 248), (7, 29, 7, 5, 250), (7, 32, 7, 6, 252), (7, 35, 7, 7, 254), (6, 9, 6, 0, 279), (6, 15, 6, 1, 280), (6, 18, 6, 2, 281), (6, 21, 6, 3, 282), (6, 24, 6, 4, 283), (6, 27, 6, 5, 284), (6, 30, 6, 6, 285), (6, 33, 6, 7, 286), (6, 37, 6, 8, 287), (3, 9, 3, 0, 313), (3, 15, 3, 1, 314), (3, 18, 3, 2, 315), (3, 21, 3, 3, 316), (10, 15, 10, 0, 344), (10, 22, 10, 1, 345), (0, 10, 8, 0, 359), (0, 16, 8, 1, 360), (0, 19, 8, 2, 361), (0, 25, 8, 3, 362), (0, 32, 8, 4, 363), (0, 39, 8, 5, 364), (0, 46, 8, 6, 365), (0, 53, 8, 7, 366), (0, 57, 8, 8, 367), (0, 61, 8, 9, 368), (0, 65, 8, 10, 369), (0, 139, 2, 0, 195), (0, 205, 5, 3, 151), (0, 167, 5, 1, 145), (0, 299, 7, 1, 243), (2, 105, 1, 2, 180), (2, 108, 1, 0, 174), (2, 111, 1, 1, 177), (2, 117, 5, 4, 153), (2, 60, 1, 3, 183), (2, 130, 5, 1, 144), (0, 260, 2, 3, 201), (0, 103, 2, 4, 203), (0, 173, 5, 2, 147), (0, 184, 5, 0, 142), (0, 316, 7, 6, 253), (0, 322, 7, 2, 245), (0, 325, 7, 3, 247), (0, 328, 7, 4, 249), (0, 329, 7, 5, 251), (10, 79, 10, 3, 348), (10, 73, 10, 2, 346), (0, 106, 2, 1, 197), (0, 110, 1, 3, 184), (0, 118, 1, 0, 175), (0, 126, 1, 1, 178), (0, 129, 1, 2, 181), (3, 25, 5, 3, 150), (6, 40, 5, 3, 149), (0, 143, 5, 4, 154), (0, 257, 2, 2, 199), (0, 334, 4, 2, 227), (9, 9, 9, 0, 1604), (9, 13, 9, 1, 1605), (9, 16, 9, 2, 1606), (9, 19, 9, 3, 1607), (9, 22, 9, 6, 1610), (9, 26, 9, 7, 1611), (9, 29, 9, 8, 1612), (9, 32, 9, 9, 1613), (9, 35, 9, 10, 1614), (9, 38, 9, 11, 1615), (9, 41, 9, 12, 1616), (9, 44, 9, 14, 1618), (9, 47, 9, 21, 1625), (9, 50, 9, 16, 1620), (9, 61, 9, 5, 1609), (9, 236, 9, 15, 1619), (9, 242, 9, 13, 1617), (9, 245, 9, 18, 1622), (9, 248, 9, 17, 1621), (9, 251, 9, 19, 1623), (9, 265, 9, 20, 1624), (9, 71, 9, 4, 1608)]
def lnkA_0 : List (Nat × Nat × Nat × Nat × List Nat) := [(2, 11, 3, 0, [136]),
  (2, 20, 3, 1, [170]),
  (4, 24, 2, 2, [223, 130]),
  (13, 1, 2, 7, [331, 332]),
  (0, 9, 2, 2, [129, 130]),
  (0, 24, 2, 3, [217, 218]),
  (0, 31, 3, 4, [238]),
  (0, 38, 3, 5, [276]),
  (0, 45, 3, 6, [310]),
  (0, 52, 2, 8, [328, 329]),
  (0, 347, 1, 10, [1242, 409]),
  (0, 156, 1, 11, [1239, 1240]),
  (0, 355, 0, 12, [1299, 435, 436]),
  (5, 54, 0, 14, [682, 684, 14]),
  (0, 190, 0, 13, [1295, 1297, 27]),
  (0, 202, 0, 15, [678, 679, 680]),
  (0, 170, 1, 18, [1226, 406]),
  (5, 36, 0, 12, [434, 435, 436]),
  (0, 148, 1, 19, [1223, 1224]),
  (0, 159, 0, 20, [1244, 443, 444]),
  (0, 163, 0, 21, [1252, 1254, 26]),
  (0, 303, 0, 23, [1481, 1482, 1483]),
  (2, 102, 0, 25, [426, 427, 428]),
  (2, 114, 0, 26, [430, 431, 432])]
def lnkA_1 : List (Nat × Nat × Nat × Nat × List Nat) := [(2, 120, 0, 27, [422, 423, 424]),
  (0, 135, 0, 28, [652, 419, 420]),
  (5, 47, 0, 32, [450, 451, 452]),
  (2, 75, 0, 20, [442, 443, 444]),
  (2, 78, 0, 33, [446, 447, 448]),
  (2, 49, 4, 18, [406]),
  (2, 53, 4, 10, [409]),
  (2, 57, 1, 30, [411, 412]),
  (2, 63, 0, 31, [414, 415, 416]),
  (2, 67, 0, 28, [418, 419, 420]),
  (2, 71, 0, 34, [438, 440, 5]),
  (2, 36, 0, 37, [568, 569, 570]),
  (2, 40, 0, 38, [575, 576, 577]),
  (4, 25, 0, 39, [564, 565, 566]),
  (5, 43, 0, 43, [608, 610, 9]),
  (5, 40, 0, 44, [604, 606, 8]),
  (2, 123, 0, 45, [600, 601, 602]),
  (2, 127, 0, 46, [612, 614, 10]),
  (2, 141, 0, 49, [628, 629, 630]),
  (2, 144, 0, 51, [636, 637, 638]),
  (2, 82, 0, 41, [588, 589, 590]),
  (2, 85, 0, 42, [592, 593, 594]),
  (2, 89, 0, 47, [596, 598, 7]),
  (2, 93, 0, 48, [616, 618, 11])]
def lnkA_2 : List (Nat × Nat × Nat × Nat × List Nat) := [(2, 96, 0, 50, [620, 622, 12]),
  (2, 99, 0, 52, [632, 634, 13]),
  (0, 72, 0, 35, [401, 402, 403]),
  (0, 75, 1, 36, [454, 455]),
  (0, 79, 0, 40, [560, 561, 562]),
  (0, 83, 0, 53, [584, 585, 586]),
  (0, 68, 0, 54, [397, 399, 4]),
  (5, 50, 0, 33, [665, 447, 448]),
  (0, 196, 0, 57, [661, 662, 663]),
  (0, 199, 0, 63, [1309, 1310, 1311]),
  (0, 319, 0, 39, [1122, 565, 566]),
  (10, 114, 1, 72, [851, 852]),
  (10, 104, 5, 73, [847, 2153, 0, 849]),
  (10, 108, 1, 74, [860, 861]),
  (10, 100, 5, 75, [843, 2152, 1, 845]),
  (10, 83, 5, 76, [872, 874, 875, 873]),
  (13, 333, 6, 77, [821, 2149, 357, 822]),
  (10, 191, 1, 79, [1096, 1097]),
  (13, 50, 6, 80, [1093, 2158, 357, 1094]),
  (10, 245, 1, 83, [953, 954]),
  (10, 248, 1, 84, [956, 957]),
  (13, 53, 6, 85, [950, 2157, 357, 951]),
  (13, 343, 6, 87, [995, 991, 357, 990]),
  (0, 268, 0, 78, [817, 818, 819])]
def lnkA_3 : List (Nat × Nat × Nat × Nat × List Nat) := [(0, 271, 0, 81, [1089, 1090, 1091]),
  (0, 122, 1, 82, [733, 734]),
  (0, 275, 0, 86, [1111, 947, 948]),
  (0, 132, 0, 27, [1112, 423, 424]),
  (0, 283, 0, 88, [1113, 993, 2159]),
  (12, 335, 0, 90, [907, 908, 909]),
  (10, 40, 0, 90, [920, 908, 909]),
  (10, 397, 5, 92, [916, 2155, 2, 918]),
  (10, 399, 0, 93, [940, 941, 942]),
  (10, 32, 0, 91, [903, 904, 905]),
  (10, 208, 5, 94, [912, 2154, 3, 914]),
  (13, 29, 6, 95, [836, 2150, 357, 837]),
  (0, 193, 0, 33, [1301, 447, 448]),
  (0, 280, 0, 96, [1443, 833, 834]),
  (5, 63, 0, 99, [698, 699, 700]),
  (3, 28, 0, 100, [694, 695, 696]),
  (3, 35, 0, 102, [713, 715, 16]),
  (3, 32, 0, 103, [709, 711, 15]),
  (0, 242, 0, 101, [690, 691, 692]),
  (0, 245, 0, 104, [705, 706, 707]),
  (3, 39, 0, 106, [725, 726, 727]),
  (0, 248, 0, 107, [721, 722, 723]),
  (0, 251, 0, 106, [1392, 726, 727]),
  (0, 254, 0, 109, [1393, 1394, 1395])]
def lnkA_4 : List (Nat × Nat × Nat × Nat × List Nat) := [(6, 43, 0, 99, [776, 699, 700]),
  (6, 57, 0, 113, [785, 787, 19]),
  (6, 53, 0, 114, [781, 783, 18]),
  (0, 219, 0, 112, [772, 773, 774]),
  (0, 236, 0, 115, [777, 778, 779]),
  (6, 68, 0, 117, [801, 803, 22]),
  (6, 72, 0, 119, [809, 811, 24]),
  (6, 61, 0, 118, [797, 799, 21]),
  (6, 65, 0, 120, [805, 807, 23]),
  (0, 239, 0, 121, [793, 794, 795]),
  (0, 227, 0, 116, [768, 770, 17]),
  (0, 230, 0, 122, [789, 791, 20]),
  (0, 211, 1, 124, [1338, 1339]),
  (0, 233, 0, 125, [1381, 1382, 1383]),
  (0, 215, 0, 99, [1342, 699, 700]),
  (0, 176, 0, 128, [1271, 1272, 1273]),
  (12, 1059, 1, 130, [1108, 1109]),
  (10, 144, 1, 131, [1470, 1106]),
  (13, 329, 6, 132, [1466, 2160, 357, 1467]),
  (0, 294, 0, 133, [1462, 1463, 1464]),
  (0, 208, 0, 137, [1327, 1328, 1329]),
  (0, 185, 0, 141, [1283, 1284, 1285]),
  (0, 115, 0, 144, [1178, 1180, 25]),
  (6, 47, 1, 147, [1354, 1355])]
def lnkA_5 : List (Nat × Nat × Nat × Nat × List Nat) := [(0, 223, 0, 148, [1350, 1351, 1352]),
  (0, 152, 0, 151, [1228, 1229, 1230]),
  (14, 9, 1, 131, [1530, 1106]),
  (12, 492, 0, 162, [1523, 1524, 1525]),
  (12, 495, 1, 163, [1527, 1528]),
  (7, 67, 0, 91, [1518, 904, 905]),
  (7, 91, 0, 164, [1519, 1520, 1521]),
  (7, 59, 1, 161, [1504, 1505]),
  (7, 63, 0, 165, [1514, 1516, 30]),
  (7, 95, 4, 18, [406]),
  (7, 99, 0, 168, [1544, 1546, 33]),
  (7, 46, 0, 166, [1500, 1502, 29]),
  (7, 50, 0, 167, [1535, 1537, 31]),
  (7, 53, 0, 169, [1540, 1542, 32]),
  (7, 42, 0, 170, [1548, 1550, 34]),
  (7, 56, 0, 171, [1552, 1554, 35]),
  (7, 38, 0, 172, [1496, 1498, 28]),
  (0, 306, 0, 173, [1492, 1493, 1494]),
  (0, 311, 0, 70, [1557, 1559, 36]),
  (0, 337, 0, 181, [1586, 1587, 1588]),
  (8, 78, 0, 16, [1316, 1317, 1318]),
  (8, 60, 0, 22, [1248, 1249, 1250]),
  (8, 127, 0, 24, [1475, 1476, 1477]),
  (8, 22, 0, 55, [1143, 1144, 1145])]
def lnkA_6 : List (Nat × Nat × Nat × Nat × List Nat) := [(8, 114, 0, 59, [1431, 1432, 1433]),
  (8, 63, 0, 62, [1260, 1261, 1262]),
  (8, 75, 0, 64, [1305, 1306, 1307]),
  (8, 30, 0, 66, [1157, 1158, 1159]),
  (8, 133, 0, 69, [1565, 1566, 1567]),
  (8, 136, 0, 71, [1573, 1574, 1575]),
  (8, 121, 0, 97, [1447, 1448, 1449]),
  (8, 118, 0, 98, [1438, 1439, 1440]),
  (8, 102, 0, 110, [1388, 1389, 1390]),
  (8, 56, 0, 111, [1235, 1236, 1237]),
  (8, 98, 0, 126, [1377, 1378, 1379]),
  (8, 84, 0, 127, [1334, 1335, 1336]),
  (8, 66, 0, 129, [1267, 1268, 1269]),
  (8, 7, 0, 155, [1128, 1129, 1130]),
  (9, 57, 1, 204, [1691, 1692]),
  (9, 75, 1, 206, [1720, 1721]),
  (9, 79, 1, 207, [1717, 1718]),
  (9, 83, 1, 208, [1723, 1724]),
  (9, 103, 1, 209, [1714, 1715]),
  (9, 53, 0, 210, [1687, 1689, 38]),
  (9, 64, 0, 212, [1730, 1732, 42]),
  (9, 106, 0, 205, [1706, 1708, 39]),
  (9, 109, 0, 211, [1710, 1712, 40]),
  (9, 113, 0, 213, [1726, 1728, 41])]
def lnkA_7 : List (Nat × Nat × Nat × Nat × List Nat) := [(8, 17, 0, 184, [1136, 1137, 1138]),
  (9, 90, 0, 217, [1742, 1744, 44]),
  (9, 116, 0, 218, [1738, 1740, 43]),
  (9, 86, 0, 220, [1770, 1772, 50]),
  (9, 93, 0, 221, [1766, 1768, 49]),
  (9, 96, 0, 222, [1762, 1764, 48]),
  (9, 100, 0, 223, [1758, 1760, 47]),
  (9, 127, 0, 226, [1778, 1780, 52]),
  (9, 119, 0, 224, [1754, 1756, 46]),
  (9, 67, 0, 225, [1683, 1685, 37]),
  (9, 123, 0, 227, [1774, 1776, 51]),
  (9, 131, 0, 228, [1750, 1752, 45]),
  (9, 135, 0, 230, [1786, 1788, 53]),
  (8, 26, 0, 176, [1150, 1151, 1152]),
  (9, 170, 0, 234, [1810, 1812, 58]),
  (9, 173, 0, 233, [1802, 1804, 56]),
  (9, 176, 0, 235, [1806, 1808, 57]),
  (9, 138, 0, 236, [1798, 1800, 55]),
  (9, 149, 0, 237, [1794, 1796, 54]),
  (9, 152, 0, 239, [1820, 1822, 59]),
  (8, 33, 0, 146, [1164, 1165, 1166]),
  (9, 155, 0, 242, [1828, 1830, 60]),
  (9, 158, 0, 244, [1836, 1838, 61]),
  (8, 37, 0, 159, [1174, 1175, 1176])]
def lnkA_8 : List (Nat × Nat × Nat × Nat × List Nat) := [(9, 161, 0, 248, [1848, 1850, 62]),
  (8, 43, 0, 158, [1198, 1199, 1200]),
  (8, 46, 0, 156, [1205, 1206, 1207]),
  (8, 49, 0, 145, [1212, 1213, 1214]),
  (8, 52, 0, 152, [1219, 1220, 1221]),
  (9, 164, 0, 259, [1876, 1878, 63]),
  (9, 167, 0, 262, [1888, 1890, 64]),
  (8, 69, 0, 142, [1279, 1280, 1281]),
  (8, 72, 0, 178, [1291, 1292, 1293]),
  (9, 179, 0, 270, [1920, 1922, 67]),
  (9, 182, 0, 271, [1916, 1918, 66]),
  (9, 185, 0, 272, [1912, 1914, 65]),
  (8, 81, 0, 179, [1323, 1324, 1325]),
  (9, 188, 0, 280, [1948, 1950, 68]),
  (9, 194, 1, 282, [1956, 1957]),
  (9, 198, 0, 283, [1959, 1961, 69]),
  (8, 88, 0, 149, [1346, 1347, 1348]),
  (8, 92, 0, 135, [1363, 1364, 1365]),
  (9, 204, 0, 288, [1984, 1986, 73]),
  (9, 201, 0, 289, [1980, 1982, 72]),
  (9, 207, 0, 290, [1976, 1978, 71]),
  (9, 210, 0, 291, [1972, 1974, 70]),
  (8, 95, 0, 136, [1370, 1371, 1372]),
  (9, 213, 0, 296, [2008, 2010, 76])]
def lnkA_9 : List (Nat × Nat × Nat × Nat × List Nat) := [(9, 216, 0, 297, [2004, 2006, 75]),
  (9, 219, 0, 298, [2000, 2002, 74]),
  (8, 105, 0, 180, [1400, 1401, 1402]),
  (8, 108, 0, 138, [1421, 1422, 1423]),
  (9, 230, 0, 316, [2072, 2074, 77]),
  (9, 233, 0, 317, [2076, 2078, 78]),
  (9, 224, 0, 164, [2089, 1520, 1521]),
  (9, 239, 0, 319, [2084, 2086, 79]),
  (8, 124, 0, 134, [1457, 1458, 1459]),
  (8, 130, 0, 174, [1488, 1489, 1490]),
  (9, 260, 1, 326, [2118, 2119]),
  (9, 254, 0, 328, [2130, 2132, 85]),
  (9, 257, 0, 329, [2126, 2128, 84]),
  (9, 268, 0, 327, [2114, 2116, 82]),
  (9, 271, 0, 330, [2122, 2124, 83]),
  (9, 274, 0, 331, [2110, 2112, 81]),
  (9, 277, 0, 332, [2106, 2108, 80]),
  (9, 280, 0, 333, [2134, 2136, 86]),
  (8, 139, 0, 182, [1581, 1582, 1583]),
  (8, 142, 0, 160, [1593, 1594, 1595]),
  (8, 145, 2, 9, [121, 122]),
  (8, 148, 2, 202, [1600, 1601]),
  (8, 149, 7, 203, [1123, 1124]),
  (8, 154, 0, 214, [1702, 1703, 1704])]
def lnkA_10 : List (Nat × Nat × Nat × Nat × List Nat) := [(8, 155, 0, 215, [1671, 1672, 1673]),
  (8, 158, 7, 216, [1132, 1133]),
  (8, 160, 0, 219, [1734, 1735, 1736]),
  (8, 161, 7, 188, [1140, 1141]),
  (8, 164, 0, 229, [1746, 1747, 1748]),
  (8, 165, 0, 153, [393, 394, 395]),
  (8, 168, 0, 231, [1782, 1783, 1784]),
  (8, 169, 7, 232, [1147, 1148]),
  (8, 172, 0, 238, [1790, 1791, 1792]),
  (8, 173, 7, 192, [1154, 1155]),
  (8, 175, 0, 240, [1816, 1817, 1818]),
  (8, 176, 7, 241, [1161, 1162]),
  (8, 179, 0, 243, [1824, 1825, 1826]),
  (8, 180, 0, 61, [640, 641, 642]),
  (8, 183, 0, 245, [1832, 1833, 1834]),
  (8, 184, 0, 157, [644, 645, 646]),
  (8, 187, 0, 246, [1840, 1841, 1842]),
  (8, 188, 7, 247, [1168, 1169]),
  (8, 190, 0, 249, [1844, 1845, 1846]),
  (8, 191, 7, 250, [1195, 1196]),
  (8, 193, 0, 251, [1852, 1853, 1854]),
  (8, 194, 7, 252, [1202, 1203]),
  (8, 196, 0, 253, [1856, 1857, 1858]),
  (8, 197, 7, 254, [1209, 1210])]
def lnkA_11 : List (Nat × Nat × Nat × Nat × List Nat) := [(8, 199, 0, 255, [1860, 1861, 1862]),
  (8, 200, 0, 29, [648, 649, 650]),
  (8, 204, 0, 256, [1864, 1865, 1866]),
  (8, 205, 0, 150, [653, 654, 655]),
  (8, 208, 0, 257, [1868, 1869, 1870]),
  (8, 209, 7, 258, [1216, 1217]),
  (8, 212, 0, 260, [1872, 1873, 1874]),
  (8, 213, 7, 198, [1232, 1233]),
  (8, 215, 0, 261, [1880, 1881, 1882]),
  (8, 216, 7, 186, [1245, 1246]),
  (8, 218, 0, 263, [1884, 1885, 1886]),
  (8, 219, 7, 190, [1257, 1258]),
  (8, 221, 0, 264, [1892, 1893, 1894]),
  (8, 222, 7, 201, [1264, 1265]),
  (8, 224, 0, 265, [1896, 1897, 1898]),
  (8, 225, 7, 266, [1276, 1277]),
  (8, 227, 0, 267, [1900, 1901, 1902]),
  (8, 228, 7, 268, [1288, 1289]),
  (8, 230, 0, 269, [1904, 1905, 1906]),
  (8, 231, 0, 58, [657, 658, 659]),
  (8, 234, 0, 273, [1908, 1909, 1910]),
  (8, 235, 0, 65, [666, 667, 668]),
  (8, 238, 0, 274, [1924, 1925, 1926]),
  (8, 239, 0, 143, [670, 671, 672])]
def lnkA_12 : List (Nat × Nat × Nat × Nat × List Nat) := [(8, 242, 0, 275, [1928, 1929, 1930]),
  (8, 243, 7, 191, [1302, 1303]),
  (8, 245, 0, 276, [1932, 1933, 1934]),
  (8, 246, 7, 185, [1313, 1314]),
  (8, 248, 0, 277, [1936, 1937, 1938]),
  (8, 249, 0, 17, [674, 675, 676]),
  (8, 252, 0, 278, [1940, 1941, 1942]),
  (8, 253, 7, 279, [1320, 1321]),
  (8, 255, 0, 281, [1944, 1945, 1946]),
  (8, 256, 7, 200, [1331, 1332]),
  (8, 259, 0, 284, [1952, 1953, 1954]),
  (8, 260, 7, 285, [1343, 1344]),
  (8, 263, 0, 286, [1964, 1965, 1966]),
  (8, 264, 7, 287, [1360, 1361]),
  (8, 266, 0, 292, [1968, 1969, 1970]),
  (8, 267, 7, 293, [1367, 1368]),
  (8, 269, 0, 294, [1988, 1989, 1990]),
  (8, 270, 7, 199, [1374, 1375]),
  (8, 273, 0, 295, [1992, 1993, 1994]),
  (8, 274, 0, 105, [686, 687, 688]),
  (8, 277, 0, 299, [1996, 1997, 1998]),
  (8, 278, 0, 108, [717, 718, 719]),
  (8, 281, 0, 300, [2012, 2013, 2014]),
  (8, 282, 7, 197, [1385, 1386])]
def lnkA_13 : List (Nat × Nat × Nat × Nat × List Nat) := [(8, 284, 0, 301, [2016, 2017, 2018]),
  (8, 285, 7, 302, [1397, 1398]),
  (8, 287, 0, 303, [2020, 2021, 2022]),
  (8, 288, 0, 139, [729, 730, 731]),
  (8, 292, 0, 304, [2024, 2025, 2026]),
  (8, 293, 0, 68, [736, 737, 738]),
  (8, 296, 0, 305, [2028, 2029, 2030]),
  (8, 297, 0, 60, [740, 741, 742]),
  (8, 300, 0, 306, [2032, 2033, 2034]),
  (8, 301, 0, 140, [744, 745, 746]),
  (8, 304, 0, 307, [2036, 2037, 2038]),
  (8, 305, 0, 67, [748, 749, 750]),
  (8, 308, 0, 308, [2040, 2041, 2042]),
  (8, 309, 0, 56, [752, 753, 754]),
  (8, 312, 0, 309, [2044, 2045, 2046]),
  (8, 313, 0, 154, [756, 757, 758]),
  (8, 316, 0, 310, [2048, 2049, 2050]),
  (8, 317, 0, 177, [760, 761, 762]),
  (8, 320, 0, 311, [2052, 2053, 2054]),
  (8, 321, 7, 312, [1404, 1405]),
  (8, 324, 0, 313, [2056, 2057, 2058]),
  (8, 325, 7, 189, [1428, 1429]),
  (8, 327, 0, 314, [2060, 2061, 2062]),
  (8, 328, 0, 123, [764, 765, 766])]
def lnkA_14 : List (Nat × Nat × Nat × Nat × List Nat) := [(8, 331, 0, 315, [2064, 2065, 2066]),
  (8, 332, 7, 196, [1435, 1436]),
  (8, 334, 0, 318, [2068, 2069, 2070]),
  (8, 335, 7, 195, [1444, 1445]),
  (8, 337, 0, 320, [2080, 2081, 2082]),
  (8, 338, 0, 89, [813, 814, 815]),
  (8, 341, 0, 321, [2090, 2091, 2092]),
  (8, 342, 7, 322, [1454, 1455]),
  (8, 344, 0, 323, [2094, 2095, 2096]),
  (8, 345, 7, 187, [1472, 1473]),
  (8, 347, 0, 324, [2098, 2099, 2100]),
  (8, 348, 7, 325, [1485, 1486]),
  (8, 350, 0, 334, [2102, 2103, 2104]),
  (8, 351, 7, 193, [1562, 1563]),
  (8, 353, 0, 335, [2138, 2139, 2140]),
  (8, 354, 7, 194, [1570, 1571]),
  (8, 356, 0, 336, [2142, 2143, 2144]),
  (8, 357, 0, 183, [1114, 1115, 1116]),
  (8, 360, 0, 337, [1675, 1676, 1677]),
  (8, 361, 7, 338, [1578, 1579]),
  (8, 363, 0, 339, [1679, 1680, 1681]),
  (8, 364, 0, 175, [1118, 1119, 1120]),
  (8, 367, 0, 340, [1694, 1695, 1696]),
  (8, 368, 7, 341, [1590, 1591])]
def lnkA_15 : List (Nat × Nat × Nat × Nat × List Nat) := [(8, 370, 0, 342, [1698, 1699, 1700])]
def lnkA : List (Nat × Nat × Nat × Nat × List Nat) := lnkA_0 ++ (lnkA_1 ++ (lnkA_2 ++ (lnkA_3 ++ (lnkA_4 ++ (lnkA_5 ++ (lnkA_6 ++ (lnkA_7 ++ (lnkA_8 ++ (lnkA_9 ++ (lnkA_10 ++ (lnkA_11 ++ (lnkA_12 ++ (lnkA_13 ++ (lnkA_14 ++ (lnkA_15)))))))))))))))
def metA_0 : List (Nat × Nat) := [(137, 90), (171, 91), (131, 89), (219, 92), (239, 93), (277, 94), (311, 95), (333, 96), (330, 97), (123, 88), (410, 88), (1241, 88), (437, 90), (1298, 88), (685, 90), (681, 90), (1319, 88), (677, 88), (407, 88), (1225, 88)]
def metA_1 : List (Nat × Nat) := [(445, 90), (1255, 88), (1251, 88), (1484, 93), (1478, 88), (429, 91), (433, 90), (425, 89), (421, 89), (651, 88), (413, 89), (417, 91), (453, 90), (449, 90), (441, 89), (404, 89), (456, 88), (571, 90), (578, 91), (567, 89)]
def metA_2 : List (Nat × Nat) := [(563, 92), (591, 91), (595, 91), (611, 90), (607, 90), (603, 90), (615, 89), (599, 89), (619, 89), (631, 90), (623, 89), (639, 90), (635, 89), (587, 89), (400, 88), (1146, 88), (755, 88), (664, 90), (660, 88), (1434, 88)]
def metA_3 : List (Nat × Nat) := [(743, 88), (643, 88), (1263, 88), (1312, 90), (1308, 88), (669, 88), (1160, 88), (751, 88), (739, 88), (1568, 88), (1560, 88), (1576, 88), (853, 115), (850, 96), (862, 116), (846, 96), (876, 96), (823, 96), (820, 97), (1098, 118)]
def metA_4 : List (Nat × Nat) := [(1095, 96), (1092, 97), (735, 88), (955, 112), (958, 112), (952, 96), (949, 97), (996, 96), (994, 97), (816, 88), (910, 98), (906, 98), (919, 96), (943, 98), (915, 96), (838, 96), (835, 97), (1450, 88), (1441, 88), (701, 90)]
def metA_5 : List (Nat × Nat) := [(697, 90), (693, 95), (716, 95), (712, 95), (708, 95), (689, 88), (728, 95), (724, 95), (720, 88), (1396, 90), (1391, 88), (1238, 88), (775, 94), (788, 94), (784, 94), (780, 94), (771, 88), (804, 94), (800, 94), (812, 94)]
def metA_6 : List (Nat × Nat) := [(808, 94), (796, 94), (792, 88), (767, 88), (1340, 88), (1384, 94), (1380, 88), (1337, 88), (1274, 90), (1270, 88), (1110, 117), (1107, 98), (1468, 96), (1465, 97), (1460, 88), (1366, 88), (1373, 88), (1330, 90), (1424, 88), (732, 88)]
def metA_7 : List (Nat × Nat) := [(747, 88), (1286, 90), (1282, 88), (673, 88), (1181, 88), (1215, 88), (1167, 88), (1356, 112), (1353, 94), (1349, 88), (656, 88), (1231, 90), (1222, 88), (396, 88), (759, 88), (1131, 88), (1208, 88), (647, 88), (1201, 88), (1177, 88)]
def metA_8 : List (Nat × Nat) := [(1596, 88), (1506, 93), (1526, 98), (1529, 118), (1522, 98), (1517, 93), (1503, 93), (1538, 93), (1547, 93), (1543, 93), (1551, 93), (1555, 93), (1499, 93), (1495, 93), (1491, 88), (1121, 88), (1153, 88), (763, 88), (1294, 88), (1326, 88)]
def metA_9 : List (Nat × Nat) := [(1403, 88), (1589, 92), (1584, 88), (1117, 88), (1139, 88), (1315, 87), (1247, 87), (1474, 87), (1142, 87), (1430, 87), (1259, 87), (1304, 87), (1156, 87), (1564, 87), (1572, 87), (1446, 87), (1437, 87), (1387, 87), (1234, 87), (1376, 87)]
def metA_10 : List (Nat × Nat) := [(1333, 87), (1266, 87), (1602, 100), (1125, 87), (1693, 100), (1709, 100), (1722, 100), (1719, 100), (1725, 100), (1716, 100), (1690, 100), (1713, 100), (1733, 100), (1729, 100), (1705, 100), (1674, 100), (1134, 87), (1745, 100), (1741, 100), (1737, 100)]
def metA_11 : List (Nat × Nat) := [(1773, 100), (1769, 100), (1765, 100), (1761, 100), (1757, 100), (1686, 100), (1781, 100), (1777, 100), (1753, 100), (1749, 100), (1789, 100), (1785, 100), (1149, 87), (1805, 100), (1813, 100), (1809, 100), (1801, 100), (1797, 100), (1793, 100), (1823, 100)]
def metA_12 : List (Nat × Nat) := [(1819, 100), (1163, 87), (1831, 100), (1827, 100), (1839, 100), (1835, 100), (1843, 100), (1170, 87), (1851, 100), (1847, 100), (1197, 87), (1855, 100), (1204, 87), (1859, 100), (1211, 87), (1863, 100), (1867, 100), (1871, 100), (1218, 87), (1879, 100)]
def metA_13 : List (Nat × Nat) := [(1875, 100), (1883, 100), (1891, 100), (1887, 100), (1895, 100), (1899, 100), (1278, 87), (1903, 100), (1290, 87), (1907, 100), (1923, 100), (1919, 100), (1915, 100), (1911, 100), (1927, 100), (1931, 100), (1935, 100), (1939, 100), (1943, 100), (1322, 87)]
def metA_14 : List (Nat × Nat) := [(1951, 100), (1947, 100), (1958, 100), (1962, 100), (1955, 100), (1345, 87), (1967, 100), (1362, 87), (1987, 100), (1983, 100), (1979, 100), (1975, 100), (1971, 100), (1369, 87), (1991, 100), (1995, 100), (2011, 100), (2007, 100), (2003, 100), (1999, 100)]
def metA_15 : List (Nat × Nat) := [(2015, 100), (2019, 100), (1399, 87), (2023, 100), (2027, 100), (2031, 100), (2035, 100), (2039, 100), (2043, 100), (2047, 100), (2051, 100), (2055, 100), (1406, 87), (2059, 100), (2063, 100), (2067, 100), (2075, 100), (2079, 100), (2071, 100), (2087, 100)]
def metA_16 : List (Nat × Nat) := [(2083, 100), (2093, 100), (1456, 87), (2097, 100), (2101, 100), (1487, 87), (2120, 100), (2117, 100), (2133, 100), (2129, 100), (2125, 100), (2113, 100), (2109, 100), (2137, 100), (2105, 100), (2141, 100), (2145, 100), (1678, 100), (1580, 87), (1682, 100)]
def metA_17 : List (Nat × Nat) := [(1697, 100), (1592, 87), (1701, 100)]
def newA : List (Nat × Nat × Nat × List Nat) := [(2, 9, 5, [133, 134, 90]), (2, 18, 1, [167, 168, 91]), (4, 9, 2, [221, 128, 89]), (0, 7, 2, [127, 128, 89]), (0, 22, 4, [215, 216, 92]), (0, 29, 7, [235, 236, 93]), (0, 36, 6, [273, 274, 94]), (0, 43, 3, [307, 308, 95]), (0, 50, 10, [326, 327, 97]), (8, 8, 8, [119, 120, 88]), (8, 146, 9, [1598, 1599, 100])]
def ldiA : List (Nat × Nat × Int × Nat) := [(16, 200, 2147483639, 855), (10, 39, 2147483647, 859), (11, 265, 1431655765, 1357), (11, 266, 858993459, 1358), (11, 267, 252645135, 1359)]
/-- the places of the words that tell how objects are laid -/
def layA : List (List Nat) := [[185, 187, 189, 191], [204, 206, 208, 210, 212], [317, 319, 321, 323], [228, 230, 232], [155, 157, 159, 161, 163], [288, 290, 292, 294, 296, 298, 300, 302, 304], [255, 257, 259, 261, 263, 265, 267, 269], [370, 372, 374, 376, 378, 380, 382, 384, 386, 388, 390], [1626, 1628, 1630, 1632, 1634, 1636, 1638, 1640, 1642, 1644, 1646, 1648, 1650, 1652, 1654, 1656, 1658, 1660, 1662, 1664, 1666, 1668], [349, 351, 353, 355]]
def stzA : List (Nat × Nat × Nat) := [(10, 18, 1), (11, 83, 102), (11, 87, 103), (12, 38, 1), (12, 1053, 101)]
def stfA : List (Nat × Nat × Nat) := [(12, 9, 705), (12, 15, 706)]
def stzH : List Nat := [335, 959, 961, 911, 889]
def stfH : List Nat := [1028, 1029]
def fixA : List Nat := [125, 126, 166, 272, 358, 2146, 2147, 574, 573, 107, 108, 582, 626, 703, 583, 627, 704]
def slsA : List (Nat × Nat × Nat) := [(0, 278, 10), (0, 286, 4), (0, 288, 6), (0, 290, 8), (7, 77, 12), (7, 79, 14), (7, 81, 16), (7, 83, 18), (7, 85, 20), (7, 87, 22), (7, 89, 24), (9, 222, 28), (9, 263, 26)]
def anwAH : List (Nat × Nat × Nat × Nat) := [(4, 9, 0, 221), (5, 15, 1, 139)]
def anwA : List (Nat × Nat × Nat) := [(4, 9, 0), (5, 15, 1)]
def oinAH : List (Nat × Nat × Nat × Nat) := [(0, 1, 0, 124), (1, 3, 0, 172), (2, 3, 0, 132), (3, 3, 0, 312), (4, 3, 0, 220), (5, 3, 0, 138), (6, 3, 0, 278), (7, 3, 0, 240), (9, 3, 0, 1603), (10, 3, 0, 334)]
def oinA : List (Nat × Nat × Nat) := [(0, 1, 0), (1, 3, 0), (2, 3, 0), (3, 3, 0), (4, 3, 0), (5, 3, 0), (6, 3, 0), (7, 3, 0), (9, 3, 0), (10, 3, 0)]
def mthAH : List (Nat × Nat × Nat × Nat) := [(1, 25, 0, 579), (2, 43, 0, 580), (2, 133, 1, 624), (2, 138, 2, 625), (4, 29, 1, 581), (5, 30, 0, 572), (5, 58, 3, 702), (7, 71, 2, 1534), (9, 141, 2, 1814), (9, 146, 1, 1815), (9, 191, 3, 1963), (10, 138, 1, 1469), (12, 212, 0, 944), (15, 150, 0, 871), (15, 304, 1, 870), (16, 194, 2, 854)]
def mthA : List (Nat × Nat × Nat) := [(1, 25, 0), (2, 43, 0), (2, 133, 1), (2, 138, 2), (4, 29, 1), (5, 30, 0), (5, 58, 3), (7, 71, 2), (9, 141, 2), (9, 146, 1), (9, 191, 3), (10, 138, 1), (12, 212, 0), (15, 150, 0), (15, 304, 1), (16, 194, 2)]
/-- throws: method, place, its class by number, the class entry, the text entry, is it wide, the constructor entry, which -/
def thrA : List (Nat × Nat × Nat × Nat × Nat × Nat × Nat × Nat) := [(11, 7, 0, 86, 351, 1, 90, 1), (13, 20, 0, 93, 358, 1, 97, 4), (19, 9, 0, 86, 343, 1, 90, 1), (21, 28, 0, 93, 353, 1, 97, 4), (24, 12, 0, 86, 297, 1, 90, 1), (24, 35, 0, 98, 301, 1, 102, 2), (36, 5, 0, 86, 88, 0, 90, 1), (36, 20, 0, 93, 95, 0, 97, 4), (36, 35, 0, 98, 100, 0, 102, 2), (59, 15, 0, 263, 265, 1, 267, 5), (64, 16, 0, 93, 181, 0, 97, 4), (69, 7, 0, 93, 330, 1, 97, 4), (71, 7, 0, 93, 332, 1, 97, 4), (124, 10, 0, 86, 345, 1, 90, 1), (129, 20, 0, 179, 181, 0, 183, 3), (134, 15, 0, 179, 292, 1, 183, 3), (138, 15, 0, 263, 265, 1, 267, 5), (142, 19, 0, 93, 188, 0, 97, 4), (144, 18, 0, 179, 360, 1, 183, 3), (160, 7, 0, 98, 341, 1, 102, 2), (174, 25, 0, 86, 309, 1, 90, 1), (174, 50, 0, 98, 314, 1, 102, 2), (182, 10, 0, 98, 335, 1, 102, 2)]
def fndThr : List (Nat × Nat × Nat × Nat × Nat × Nat × Nat × Nat) → Nat → Nat → Nat → Nat → Bool
  | [], _, _, _, _ => false
  | r :: l, y, pc, i, e => (Nat.beq r.1 y && Nat.beq r.2.1 pc && Nat.beq r.2.2.2.1 i && Nat.beq r.2.2.2.2.2.2.2 e) || fndThr l y pc i e
