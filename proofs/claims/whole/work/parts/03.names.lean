/-- the words of the tables that stay, whatever is resolved -/
def tg : List Cond := lw_tbl.filter goodWord
theorem tg_of (i : Nat) {w : Cond} (h : lw_tbl[i]? = some w) (g : goodWord w = true) : w ∈ tg := List.mem_filter.mpr ⟨List.mem_of_getElem? h, g⟩
theorem tg_in {w : Cond} (h : w ∈ tg) : w ∈ lw_tbl := (List.mem_filter.mp h).1
theorem tg_good {w : Cond} (h : w ∈ tg) : (w.onTables && w.keeps) = true ∨ ∃ ty, w = .arrayClass ty := good_of_word (List.mem_filter.mp h).2
theorem tg_GoodIn {ws : List Cond} (h : ∀ w ∈ ws, w ∈ tg) : GoodIn tg ws := fun w hw => ⟨h w hw, tg_good (h w hw)⟩
def RX0 : String := "MicroMachine$Word"
def TX0 : u_T := fun k => match k with
  | 0 => ("MicroMachine$Word", "parts", "I", false)
  | 1 => ("MicroMachine$Word", "targets", "I", false)
  | 2 => ("MicroMachine$Word", "operation", "I", false)
  | 3 => ("MicroMachine$Word", "source", "I", false)
  | 4 => ("MicroMachine$Word", "shift", "I", false)
  | 5 => ("MicroMachine$Word", "asksWord", "I", false)
  | 6 => ("MicroMachine$Word", "asksByte", "Z", false)
  | 7 => ("MicroMachine$Word", "going", "I", false)
  | 8 => ("MicroMachine$Word", "first", "I", false)
  | _ => ("MicroMachine$Word", "second", "I", false)
def tyX0 : Nat → FieldType := fun k => match k with
  | 0 => .int
  | 1 => .int
  | 2 => .int
  | 3 => .int
  | 4 => .int
  | 5 => .int
  | 6 => .boolean
  | 7 => .int
  | 8 => .int
  | _ => .int
theorem nmX0 : ∀ a, a < 10 → ∀ b, b < 10 → a ≠ b → (TX0 a).2.1 ≠ (TX0 b).2.1 := by decide +kernel
theorem tyX0_ok : ∀ k, k < 10 → parseFieldDescriptor (TX0 k).2.2.1 = some (tyX0 k) := by decide +kernel
theorem inX0 : ∀ w ∈ u_ws RX0 TX0 10, w ∈ tg := by decide +kernel
def RX1 : String := "MicroMachine$WordReader"
def TX1 : u_T := fun k => match k with
  | 0 => ("MicroMachine$WordReader", "text", "[C", true)
  | 1 => ("MicroMachine$WordReader", "length", "I", false)
  | 2 => ("MicroMachine$WordReader", "at", "I", false)
  | _ => ("MicroMachine$WordReader", "draft", "LMicroMachine$Word;", false)
def tyX1 : Nat → FieldType := fun k => match k with
  | 0 => .array .char
  | 1 => .int
  | 2 => .int
  | _ => .object "MicroMachine$Word"
theorem nmX1 : ∀ a, a < 4 → ∀ b, b < 4 → a ≠ b → (TX1 a).2.1 ≠ (TX1 b).2.1 := by decide +kernel
theorem tyX1_ok : ∀ k, k < 4 → parseFieldDescriptor (TX1 k).2.2.1 = some (tyX1 k) := by decide +kernel
theorem inX1 : ∀ w ∈ u_ws RX1 TX1 4, w ∈ tg := by decide +kernel
def RX2 : String := "MicroMachine"
def TX2 : u_T := fun k => match k with
  | 0 => ("MicroMachine", "reader", "LMicroMachine$WordReader;", true)
  | 1 => ("MicroMachine", "wrongPlace", "I", false)
  | 2 => ("MicroMachine", "store", "[LMicroMachine$Word;", true)
  | 3 => ("MicroMachine", "wordsThere", "I", false)
  | 4 => ("MicroMachine", "atHand", "I", false)
  | 5 => ("MicroMachine", "registers", "[I", true)
  | 6 => ("MicroMachine", "cells", "[I", true)
  | 7 => ("MicroMachine", "bytes", "[I", true)
  | 8 => ("MicroMachine", "wordComes", "Z", false)
  | 9 => ("MicroMachine", "comingWord", "I", false)
  | 10 => ("MicroMachine", "byteComes", "Z", false)
  | 11 => ("MicroMachine", "comingByte", "I", false)
  | 12 => ("MicroMachine", "cyclesDone", "I", false)
  | 13 => ("MicroMachine", "wordsRead", "I", false)
  | 14 => ("MicroMachine", "wordsWritten", "I", false)
  | _ => ("MicroMachine", "bytesRead", "I", false)
def tyX2 : Nat → FieldType := fun k => match k with
  | 0 => .object "MicroMachine$WordReader"
  | 1 => .int
  | 2 => .array (.object "MicroMachine$Word")
  | 3 => .int
  | 4 => .int
  | 5 => .array .int
  | 6 => .array .int
  | 7 => .array .int
  | 8 => .boolean
  | 9 => .int
  | 10 => .boolean
  | 11 => .int
  | 12 => .int
  | 13 => .int
  | 14 => .int
  | _ => .int
theorem nmX2 : ∀ a, a < 16 → ∀ b, b < 16 → a ≠ b → (TX2 a).2.1 ≠ (TX2 b).2.1 := by decide +kernel
theorem tyX2_ok : ∀ k, k < 16 → parseFieldDescriptor (TX2 k).2.2.1 = some (tyX2 k) := by decide +kernel
theorem inX2 : ∀ w ∈ u_ws RX2 TX2 16, w ∈ tg := by decide +kernel
def RX3 : String := "MicroMachineModel"
def TX3 : u_T := fun k => match k with
  | 0 => ("MicroMachineModel", "text", "[I", true)
  | 1 => ("MicroMachineModel", "registers", "[I", true)
  | 2 => ("MicroMachineModel", "memory", "[I", true)
  | 3 => ("MicroMachineModel", "bytes", "[I", true)
  | 4 => ("MicroMachineModel", "into", "[I", true)
  | 5 => ("MicroMachineModel", "sort", "[I", true)
  | 6 => ("MicroMachineModel", "from", "[I", true)
  | 7 => ("MicroMachineModel", "shift", "[I", true)
  | 8 => ("MicroMachineModel", "words", "[I", true)
  | 9 => ("MicroMachineModel", "fetch", "[I", true)
  | 10 => ("MicroMachineModel", "going", "[I", true)
  | 11 => ("MicroMachineModel", "first", "[I", true)
  | 12 => ("MicroMachineModel", "second", "[I", true)
  | 13 => ("MicroMachineModel", "there", "[Z", true)
  | 14 => ("MicroMachineModel", "length", "I", false)
  | 15 => ("MicroMachineModel", "place", "I", false)
  | 16 => ("MicroMachineModel", "i", "I", false)
  | 17 => ("MicroMachineModel", "parts", "I", false)
  | 18 => ("MicroMachineModel", "hand", "I", false)
  | 19 => ("MicroMachineModel", "cycles", "I", false)
  | 20 => ("MicroMachineModel", "reads", "I", false)
  | 21 => ("MicroMachineModel", "writes", "I", false)
  | 22 => ("MicroMachineModel", "fetches", "I", false)
  | 23 => ("MicroMachineModel", "thrown", "I", false)
  | 24 => ("MicroMachineModel", "wordComes", "Z", false)
  | 25 => ("MicroMachineModel", "byteComes", "Z", false)
  | 26 => ("MicroMachineModel", "word", "I", false)
  | _ => ("MicroMachineModel", "aByte", "I", false)
def tyX3 : Nat → FieldType := fun k => match k with
  | 0 => .array .int
  | 1 => .array .int
  | 2 => .array .int
  | 3 => .array .int
  | 4 => .array .int
  | 5 => .array .int
  | 6 => .array .int
  | 7 => .array .int
  | 8 => .array .int
  | 9 => .array .int
  | 10 => .array .int
  | 11 => .array .int
  | 12 => .array .int
  | 13 => .array .boolean
  | 14 => .int
  | 15 => .int
  | 16 => .int
  | 17 => .int
  | 18 => .int
  | 19 => .int
  | 20 => .int
  | 21 => .int
  | 22 => .int
  | 23 => .int
  | 24 => .boolean
  | 25 => .boolean
  | 26 => .int
  | _ => .int
theorem nmX3 : ∀ a, a < 28 → ∀ b, b < 28 → a ≠ b → (TX3 a).2.1 ≠ (TX3 b).2.1 := by decide +kernel
theorem tyX3_ok : ∀ k, k < 28 → parseFieldDescriptor (TX3 k).2.2.1 = some (tyX3 k) := by decide +kernel
theorem inX3 : ∀ w ∈ u_ws RX3 TX3 28, w ∈ tg := by decide +kernel
def RL : String := "MicroMachineLaw"
abbrev vwCl : List vw_C := [(RX0, TX0, 10), (RX1, TX1, 4), (RX2, TX2, 16), (RX3, TX3, 28)]
abbrev cX2_init : ByteArray := prog_1_method_1_code
def yX2_init : MethodName := ⟨RX2, "<init>", "()V"⟩
abbrev wX2_init : List Cond := .code yX2_init cX2_init 1 none :: tg
theorem kX2_init : Cond.code yX2_init cX2_init 1 none ∈ tg := tg_of 59 (by decide +kernel) rfl
theorem gX2_init : GoodIn tg wX2_init := tg_GoodIn (fun w h => (List.mem_cons.mp h).elim (fun e => e ▸ kX2_init) (fun h => h))
abbrev cX1_init : ByteArray := prog_3_method_1_code
def yX1_init : MethodName := ⟨RX1, "<init>", "()V"⟩
abbrev wX1_init : List Cond := .code yX1_init cX1_init 1 none :: tg
theorem kX1_init : Cond.code yX1_init cX1_init 1 none ∈ tg := tg_of 67 (by decide +kernel) rfl
theorem gX1_init : GoodIn tg wX1_init := tg_GoodIn (fun w h => (List.mem_cons.mp h).elim (fun e => e ▸ kX1_init) (fun h => h))
abbrev cX0_init : ByteArray := prog_2_method_1_code
def yX0_init : MethodName := ⟨RX0, "<init>", "()V"⟩
abbrev wX0_init : List Cond := .code yX0_init cX0_init 1 none :: tg
theorem kX0_init : Cond.code yX0_init cX0_init 1 none ∈ tg := tg_of 73 (by decide +kernel) rfl
theorem gX0_init : GoodIn tg wX0_init := tg_GoodIn (fun w h => (List.mem_cons.mp h).elim (fun e => e ▸ kX0_init) (fun h => h))
abbrev cX2_count : ByteArray := prog_1_method_13_code
def yX2_count : MethodName := ⟨RX2, "count", "(I)I"⟩
abbrev wX2_count : List Cond := .code yX2_count cX2_count 2 (some .int) :: tg
theorem kX2_count : Cond.code yX2_count cX2_count 2 (some .int) ∈ tg := tg_of 191 (by decide +kernel) rfl
theorem gX2_count : GoodIn tg wX2_count := tg_GoodIn (fun w h => (List.mem_cons.mp h).elim (fun e => e ▸ kX2_count) (fun h => h))
abbrev cL_type : ByteArray := method_3_code
def yL_type : MethodName := ⟨RL, "type", "(LMicroMachine;J[J)I"⟩
abbrev wL_type : List Cond := .codeWith yL_type cL_type 5 (some .int) [(0, 9, 12, 13), (0, 9, 16, 15)] :: tg
theorem kL_type : Cond.codeWith yL_type cL_type 5 (some .int) [(0, 9, 12, 13), (0, 9, 16, 15)] ∈ tg := tg_of 194 (by decide +kernel) rfl
theorem gL_type : GoodIn tg wL_type := tg_GoodIn (fun w h => (List.mem_cons.mp h).elim (fun e => e ▸ kL_type) (fun h => h))
abbrev cX2_type : ByteArray := prog_1_method_2_code
def yX2_type : MethodName := ⟨RX2, "type", "(J)I"⟩
abbrev wX2_type : List Cond := .code yX2_type cX2_type 6 (some .int) :: tg
theorem kX2_type : Cond.code yX2_type cX2_type 6 (some .int) ∈ tg := tg_of 200 (by decide +kernel) rfl
theorem gX2_type : GoodIn tg wX2_type := tg_GoodIn (fun w h => (List.mem_cons.mp h).elim (fun e => e ▸ kX2_type) (fun h => h))
abbrev cX2_byteOf : ByteArray := prog_1_method_14_code
def yX2_byteOf : MethodName := ⟨RX2, "byteOf", "(JI)I"⟩
abbrev wX2_byteOf : List Cond := .code yX2_byteOf cX2_byteOf 3 (some .int) :: tg
theorem kX2_byteOf : Cond.code yX2_byteOf cX2_byteOf 3 (some .int) ∈ tg := tg_of 203 (by decide +kernel) rfl
theorem gX2_byteOf : GoodIn tg wX2_byteOf := tg_GoodIn (fun w h => (List.mem_cons.mp h).elim (fun e => e ▸ kX2_byteOf) (fun h => h))
abbrev cX1_add : ByteArray := prog_3_method_2_code
def yX1_add : MethodName := ⟨RX1, "add", "(C)V"⟩
abbrev wX1_add : List Cond := .code yX1_add cX1_add 2 none :: tg
theorem kX1_add : Cond.code yX1_add cX1_add 2 none ∈ tg := tg_of 286 (by decide +kernel) rfl
theorem gX1_add : GoodIn tg wX1_add := tg_GoodIn (fun w h => (List.mem_cons.mp h).elim (fun e => e ▸ kX1_add) (fun h => h))
abbrev cL_word : ByteArray := method_4_code
def yL_word : MethodName := ⟨RL, "word", "(LMicroMachine;I[J)I"⟩
abbrev wL_word : List Cond := .codeWith yL_word cL_word 4 (some .int) [(0, 9, 12, 13)] :: tg
theorem kL_word : Cond.codeWith yL_word cL_word 4 (some .int) [(0, 9, 12, 13)] ∈ tg := tg_of 289 (by decide +kernel) rfl
theorem gL_word : GoodIn tg wL_word := tg_GoodIn (fun w h => (List.mem_cons.mp h).elim (fun e => e ▸ kL_word) (fun h => h))
abbrev cX2_word : ByteArray := prog_1_method_3_code
def yX2_word : MethodName := ⟨RX2, "word", "(I)I"⟩
abbrev wX2_word : List Cond := .code yX2_word cX2_word 3 (some .int) :: tg
theorem kX2_word : Cond.code yX2_word cX2_word 3 (some .int) ∈ tg := tg_of 293 (by decide +kernel) rfl
theorem gX2_word : GoodIn tg wX2_word := tg_GoodIn (fun w h => (List.mem_cons.mp h).elim (fun e => e ▸ kX2_word) (fun h => h))
abbrev cX2_refuseOutside : ByteArray := prog_1_method_16_code
def yX2_refuseOutside : MethodName := ⟨RX2, "refuseOutside", "(II)V"⟩
abbrev wX2_refuseOutside : List Cond := .code yX2_refuseOutside cX2_refuseOutside 2 none :: tg
theorem kX2_refuseOutside : Cond.code yX2_refuseOutside cX2_refuseOutside 2 none ∈ tg := tg_of 296 (by decide +kernel) rfl
theorem gX2_refuseOutside : GoodIn tg wX2_refuseOutside := tg_GoodIn (fun w h => (List.mem_cons.mp h).elim (fun e => e ▸ kX2_refuseOutside) (fun h => h))
abbrev cX2_isOutside : ByteArray := prog_1_method_15_code
def yX2_isOutside : MethodName := ⟨RX2, "isOutside", "(II)Z"⟩
abbrev wX2_isOutside : List Cond := .code yX2_isOutside cX2_isOutside 2 (some .boolean) :: tg
theorem kX2_isOutside : Cond.code yX2_isOutside cX2_isOutside 2 (some .boolean) ∈ tg := tg_of 299 (by decide +kernel) rfl
theorem gX2_isOutside : GoodIn tg wX2_isOutside := tg_GoodIn (fun w h => (List.mem_cons.mp h).elim (fun e => e ▸ kX2_isOutside) (fun h => h))
abbrev cX1_read : ByteArray := prog_3_method_3_code
def yX1_read : MethodName := ⟨RX1, "read", "()LMicroMachine$Word;"⟩
abbrev wX1_read : List Cond := .code yX1_read cX1_read 3 (some (.object "MicroMachine$Word")) :: tg
theorem kX1_read : Cond.code yX1_read cX1_read 3 (some (.object "MicroMachine$Word")) ∈ tg := tg_of 303 (by decide +kernel) rfl
theorem gX1_read : GoodIn tg wX1_read := tg_GoodIn (fun w h => (List.mem_cons.mp h).elim (fun e => e ▸ kX1_read) (fun h => h))
abbrev cX1_readIfThere : ByteArray := prog_3_method_4_code
def yX1_readIfThere : MethodName := ⟨RX1, "readIfThere", "(I)Z"⟩
abbrev wX1_readIfThere : List Cond := .code yX1_readIfThere cX1_readIfThere 2 (some .boolean) :: tg
theorem kX1_readIfThere : Cond.code yX1_readIfThere cX1_readIfThere 2 (some .boolean) ∈ tg := tg_of 307 (by decide +kernel) rfl
theorem gX1_readIfThere : GoodIn tg wX1_readIfThere := tg_GoodIn (fun w h => (List.mem_cons.mp h).elim (fun e => e ▸ kX1_readIfThere) (fun h => h))
abbrev cX1_readSetting : ByteArray := prog_3_method_5_code
def yX1_readSetting : MethodName := ⟨RX1, "readSetting", "()Z"⟩
abbrev wX1_readSetting : List Cond := .code yX1_readSetting cX1_readSetting 2 (some .boolean) :: tg
theorem kX1_readSetting : Cond.code yX1_readSetting cX1_readSetting 2 (some .boolean) ∈ tg := tg_of 311 (by decide +kernel) rfl
theorem gX1_readSetting : GoodIn tg wX1_readSetting := tg_GoodIn (fun w h => (List.mem_cons.mp h).elim (fun e => e ▸ kX1_readSetting) (fun h => h))
abbrev cX1_isAtTarget : ByteArray := prog_3_method_6_code
def yX1_isAtTarget : MethodName := ⟨RX1, "isAtTarget", "()Z"⟩
abbrev wX1_isAtTarget : List Cond := .code yX1_isAtTarget cX1_isAtTarget 3 (some .boolean) :: tg
theorem kX1_isAtTarget : Cond.code yX1_isAtTarget cX1_isAtTarget 3 (some .boolean) ∈ tg := tg_of 315 (by decide +kernel) rfl
theorem gX1_isAtTarget : GoodIn tg wX1_isAtTarget := tg_GoodIn (fun w h => (List.mem_cons.mp h).elim (fun e => e ▸ kX1_isAtTarget) (fun h => h))
abbrev cX0_sets : ByteArray := prog_2_method_2_code
def yX0_sets : MethodName := ⟨RX0, "sets", "(I)Z"⟩
abbrev wX0_sets : List Cond := .code yX0_sets cX0_sets 2 (some .boolean) :: tg
theorem kX0_sets : Cond.code yX0_sets cX0_sets 2 (some .boolean) ∈ tg := tg_of 406 (by decide +kernel) rfl
theorem gX0_sets : GoodIn tg wX0_sets := tg_GoodIn (fun w h => (List.mem_cons.mp h).elim (fun e => e ▸ kX0_sets) (fun h => h))
abbrev cX1_take : ByteArray := prog_3_method_15_code
def yX1_take : MethodName := ⟨RX1, "take", "(C)Z"⟩
abbrev wX1_take : List Cond := .code yX1_take cX1_take 2 (some .boolean) :: tg
theorem kX1_take : Cond.code yX1_take cX1_take 2 (some .boolean) ∈ tg := tg_of 410 (by decide +kernel) rfl
theorem gX1_take : GoodIn tg wX1_take := tg_GoodIn (fun w h => (List.mem_cons.mp h).elim (fun e => e ▸ kX1_take) (fun h => h))
abbrev cX1_readValue : ByteArray := prog_3_method_7_code
def yX1_readValue : MethodName := ⟨RX1, "readValue", "()Z"⟩
abbrev wX1_readValue : List Cond := .code yX1_readValue cX1_readValue 1 (some .boolean) :: tg
theorem kX1_readValue : Cond.code yX1_readValue cX1_readValue 1 (some .boolean) ∈ tg := tg_of 414 (by decide +kernel) rfl
theorem gX1_readValue : GoodIn tg wX1_readValue := tg_GoodIn (fun w h => (List.mem_cons.mp h).elim (fun e => e ▸ kX1_readValue) (fun h => h))
abbrev cX1_does : ByteArray := prog_3_method_10_code
def yX1_does : MethodName := ⟨RX1, "does", "(I)Z"⟩
abbrev wX1_does : List Cond := .code yX1_does cX1_does 2 (some .boolean) :: tg
theorem kX1_does : Cond.code yX1_does cX1_does 2 (some .boolean) ∈ tg := tg_of 418 (by decide +kernel) rfl
theorem gX1_does : GoodIn tg wX1_does := tg_GoodIn (fun w h => (List.mem_cons.mp h).elim (fun e => e ▸ kX1_does) (fun h => h))
abbrev cX1_takeSource : ByteArray := prog_3_method_14_code
def yX1_takeSource : MethodName := ⟨RX1, "takeSource", "()Z"⟩
abbrev wX1_takeSource : List Cond := .code yX1_takeSource cX1_takeSource 2 (some .boolean) :: tg
theorem kX1_takeSource : Cond.code yX1_takeSource cX1_takeSource 2 (some .boolean) ∈ tg := tg_of 422 (by decide +kernel) rfl
theorem gX1_takeSource : GoodIn tg wX1_takeSource := tg_GoodIn (fun w h => (List.mem_cons.mp h).elim (fun e => e ▸ kX1_takeSource) (fun h => h))
abbrev cX1_readBehindH : ByteArray := prog_3_method_8_code
def yX1_readBehindH : MethodName := ⟨RX1, "readBehindH", "()Z"⟩
abbrev wX1_readBehindH : List Cond := .code yX1_readBehindH cX1_readBehindH 1 (some .boolean) :: tg
theorem kX1_readBehindH : Cond.code yX1_readBehindH cX1_readBehindH 1 (some .boolean) ∈ tg := tg_of 426 (by decide +kernel) rfl
theorem gX1_readBehindH : GoodIn tg wX1_readBehindH := tg_GoodIn (fun w h => (List.mem_cons.mp h).elim (fun e => e ▸ kX1_readBehindH) (fun h => h))
abbrev cX1_readBehindSource : ByteArray := prog_3_method_9_code
def yX1_readBehindSource : MethodName := ⟨RX1, "readBehindSource", "()Z"⟩
abbrev wX1_readBehindSource : List Cond := .code yX1_readBehindSource cX1_readBehindSource 1 (some .boolean) :: tg
theorem kX1_readBehindSource : Cond.code yX1_readBehindSource cX1_readBehindSource 1 (some .boolean) ∈ tg := tg_of 430 (by decide +kernel) rfl
theorem gX1_readBehindSource : GoodIn tg wX1_readBehindSource := tg_GoodIn (fun w h => (List.mem_cons.mp h).elim (fun e => e ▸ kX1_readBehindSource) (fun h => h))
abbrev cX1_readGoing : ByteArray := prog_3_method_11_code
def yX1_readGoing : MethodName := ⟨RX1, "readGoing", "()Z"⟩
abbrev wX1_readGoing : List Cond := .code yX1_readGoing cX1_readGoing 1 (some .boolean) :: tg
theorem kX1_readGoing : Cond.code yX1_readGoing cX1_readGoing 1 (some .boolean) ∈ tg := tg_of 434 (by decide +kernel) rfl
theorem gX1_readGoing : GoodIn tg wX1_readGoing := tg_GoodIn (fun w h => (List.mem_cons.mp h).elim (fun e => e ▸ kX1_readGoing) (fun h => h))
abbrev cX1_takeNumber : ByteArray := prog_3_method_12_code
def yX1_takeNumber : MethodName := ⟨RX1, "takeNumber", "()I"⟩
abbrev wX1_takeNumber : List Cond := .code yX1_takeNumber cX1_takeNumber 3 (some .int) :: tg
theorem kX1_takeNumber : Cond.code yX1_takeNumber cX1_takeNumber 3 (some .int) ∈ tg := tg_of 439 (by decide +kernel) rfl
theorem gX1_takeNumber : GoodIn tg wX1_takeNumber := tg_GoodIn (fun w h => (List.mem_cons.mp h).elim (fun e => e ▸ kX1_takeNumber) (fun h => h))
abbrev cX1_takeDigit : ByteArray := prog_3_method_13_code
def yX1_takeDigit : MethodName := ⟨RX1, "takeDigit", "(I)I"⟩
abbrev wX1_takeDigit : List Cond := .code yX1_takeDigit cX1_takeDigit 3 (some .int) :: tg
theorem kX1_takeDigit : Cond.code yX1_takeDigit cX1_takeDigit 3 (some .int) ∈ tg := tg_of 443 (by decide +kernel) rfl
theorem gX1_takeDigit : GoodIn tg wX1_takeDigit := tg_GoodIn (fun w h => (List.mem_cons.mp h).elim (fun e => e ▸ kX1_takeDigit) (fun h => h))
abbrev cL_erase : ByteArray := method_5_code
def yL_erase : MethodName := ⟨RL, "erase", "(LMicroMachine;I)I"⟩
abbrev wL_erase : List Cond := .codeWith yL_erase cL_erase 3 (some .int) [(0, 5, 8, 13), (0, 5, 11, 25)] :: tg
theorem kL_erase : Cond.codeWith yL_erase cL_erase 3 (some .int) [(0, 5, 8, 13), (0, 5, 11, 25)] ∈ tg := tg_of 447 (by decide +kernel) rfl
theorem gL_erase : GoodIn tg wL_erase := tg_GoodIn (fun w h => (List.mem_cons.mp h).elim (fun e => e ▸ kL_erase) (fun h => h))
abbrev cX2_erase : ByteArray := prog_1_method_4_code
def yX2_erase : MethodName := ⟨RX2, "erase", "(I)V"⟩
abbrev wX2_erase : List Cond := .code yX2_erase cX2_erase 2 none :: tg
theorem kX2_erase : Cond.code yX2_erase cX2_erase 2 none ∈ tg := tg_of 452 (by decide +kernel) rfl
theorem gX2_erase : GoodIn tg wX2_erase := tg_GoodIn (fun w h => (List.mem_cons.mp h).elim (fun e => e ▸ kX2_erase) (fun h => h))
abbrev cL_begin : ByteArray := method_6_code
def yL_begin : MethodName := ⟨RL, "begin", "(LMicroMachine;I)I"⟩
abbrev wL_begin : List Cond := .codeWith yL_begin cL_begin 3 (some .int) [(0, 5, 8, 13)] :: tg
theorem kL_begin : Cond.codeWith yL_begin cL_begin 3 (some .int) [(0, 5, 8, 13)] ∈ tg := tg_of 470 (by decide +kernel) rfl
theorem gL_begin : GoodIn tg wL_begin := tg_GoodIn (fun w h => (List.mem_cons.mp h).elim (fun e => e ▸ kL_begin) (fun h => h))
abbrev cX2_begin : ByteArray := prog_1_method_5_code
def yX2_begin : MethodName := ⟨RX2, "begin", "(I)V"⟩
abbrev wX2_begin : List Cond := .code yX2_begin cX2_begin 2 none :: tg
theorem kX2_begin : Cond.code yX2_begin cX2_begin 2 none ∈ tg := tg_of 474 (by decide +kernel) rfl
theorem gX2_begin : GoodIn tg wX2_begin := tg_GoodIn (fun w h => (List.mem_cons.mp h).elim (fun e => e ▸ kX2_begin) (fun h => h))
abbrev cL_run : ByteArray := method_7_code
def yL_run : MethodName := ⟨RL, "run", "(LMicroMachine;I[J)I"⟩
abbrev wL_run : List Cond := .codeWith yL_run cL_run 4 (some .int) [(0, 9, 12, 13), (0, 9, 15, 25), (0, 9, 18, 33)] :: tg
theorem kL_run : Cond.codeWith yL_run cL_run 4 (some .int) [(0, 9, 12, 13), (0, 9, 15, 25), (0, 9, 18, 33)] ∈ tg := tg_of 477 (by decide +kernel) rfl
theorem gL_run : GoodIn tg wL_run := tg_GoodIn (fun w h => (List.mem_cons.mp h).elim (fun e => e ▸ kL_run) (fun h => h))
abbrev cX2_run : ByteArray := prog_1_method_6_code
def yX2_run : MethodName := ⟨RX2, "run", "(I)I"⟩
abbrev wX2_run : List Cond := .code yX2_run cX2_run 4 (some .int) :: tg
theorem kX2_run : Cond.code yX2_run cX2_run 4 (some .int) ∈ tg := tg_of 482 (by decide +kernel) rfl
theorem gX2_run : GoodIn tg wX2_run := tg_GoodIn (fun w h => (List.mem_cons.mp h).elim (fun e => e ▸ kX2_run) (fun h => h))
abbrev cX2_doCycle : ByteArray := prog_1_method_17_code
def yX2_doCycle : MethodName := ⟨RX2, "doCycle", "(LMicroMachine$Word;)V"⟩
abbrev wX2_doCycle : List Cond := .code yX2_doCycle cX2_doCycle 7 none :: tg
theorem kX2_doCycle : Cond.code yX2_doCycle cX2_doCycle 7 none ∈ tg := tg_of 486 (by decide +kernel) rfl
theorem gX2_doCycle : GoodIn tg wX2_doCycle := tg_GoodIn (fun w h => (List.mem_cons.mp h).elim (fun e => e ▸ kX2_doCycle) (fun h => h))
abbrev cX2_valueOf : ByteArray := prog_1_method_18_code
def yX2_valueOf : MethodName := ⟨RX2, "valueOf", "(LMicroMachine$Word;)I"⟩
abbrev wX2_valueOf : List Cond := .code yX2_valueOf cX2_valueOf 4 (some .int) :: tg
theorem kX2_valueOf : Cond.code yX2_valueOf cX2_valueOf 4 (some .int) ∈ tg := tg_of 490 (by decide +kernel) rfl
theorem gX2_valueOf : GoodIn tg wX2_valueOf := tg_GoodIn (fun w h => (List.mem_cons.mp h).elim (fun e => e ▸ kX2_valueOf) (fun h => h))
abbrev cX2_busOf : ByteArray := prog_1_method_19_code
def yX2_busOf : MethodName := ⟨RX2, "busOf", "(I)I"⟩
abbrev wX2_busOf : List Cond := .code yX2_busOf cX2_busOf 2 (some .int) :: tg
theorem kX2_busOf : Cond.code yX2_busOf cX2_busOf 2 (some .int) ∈ tg := tg_of 494 (by decide +kernel) rfl
theorem gX2_busOf : GoodIn tg wX2_busOf := tg_GoodIn (fun w h => (List.mem_cons.mp h).elim (fun e => e ▸ kX2_busOf) (fun h => h))
abbrev cX2_shiftedBy : ByteArray := prog_1_method_20_code
def yX2_shiftedBy : MethodName := ⟨RX2, "shiftedBy", "(II)I"⟩
abbrev wX2_shiftedBy : List Cond := .code yX2_shiftedBy cX2_shiftedBy 2 (some .int) :: tg
theorem kX2_shiftedBy : Cond.code yX2_shiftedBy cX2_shiftedBy 2 (some .int) ∈ tg := tg_of 497 (by decide +kernel) rfl
theorem gX2_shiftedBy : GoodIn tg wX2_shiftedBy := tg_GoodIn (fun w h => (List.mem_cons.mp h).elim (fun e => e ▸ kX2_shiftedBy) (fun h => h))
abbrev cX2_askForWord : ByteArray := prog_1_method_21_code
def yX2_askForWord : MethodName := ⟨RX2, "askForWord", "(II)V"⟩
abbrev wX2_askForWord : List Cond := .code yX2_askForWord cX2_askForWord 5 none :: tg
theorem kX2_askForWord : Cond.code yX2_askForWord cX2_askForWord 5 none ∈ tg := tg_of 517 (by decide +kernel) rfl
theorem gX2_askForWord : GoodIn tg wX2_askForWord := tg_GoodIn (fun w h => (List.mem_cons.mp h).elim (fun e => e ▸ kX2_askForWord) (fun h => h))
abbrev cX2_askForByte : ByteArray := prog_1_method_22_code
def yX2_askForByte : MethodName := ⟨RX2, "askForByte", "(ZI)V"⟩
abbrev wX2_askForByte : List Cond := .code yX2_askForByte cX2_askForByte 5 none :: tg
theorem kX2_askForByte : Cond.code yX2_askForByte cX2_askForByte 5 none ∈ tg := tg_of 521 (by decide +kernel) rfl
theorem gX2_askForByte : GoodIn tg wX2_askForByte := tg_GoodIn (fun w h => (List.mem_cons.mp h).elim (fun e => e ▸ kX2_askForByte) (fun h => h))
abbrev cX2_wordBehind : ByteArray := prog_1_method_23_code
def yX2_wordBehind : MethodName := ⟨RX2, "wordBehind", "(LMicroMachine$Word;I)I"⟩
abbrev wX2_wordBehind : List Cond := .code yX2_wordBehind cX2_wordBehind 3 (some .int) :: tg
theorem kX2_wordBehind : Cond.code yX2_wordBehind cX2_wordBehind 3 (some .int) ∈ tg := tg_of 525 (by decide +kernel) rfl
theorem gX2_wordBehind : GoodIn tg wX2_wordBehind := tg_GoodIn (fun w h => (List.mem_cons.mp h).elim (fun e => e ▸ kX2_wordBehind) (fun h => h))
abbrev cL_set : ByteArray := method_8_code
def yL_set : MethodName := ⟨RL, "set", "(LMicroMachine;II)I"⟩
abbrev wL_set : List Cond := .codeWith yL_set cL_set 4 (some .int) [(0, 6, 9, 13)] :: tg
theorem kL_set : Cond.codeWith yL_set cL_set 4 (some .int) [(0, 6, 9, 13)] ∈ tg := tg_of 529 (by decide +kernel) rfl
theorem gL_set : GoodIn tg wL_set := tg_GoodIn (fun w h => (List.mem_cons.mp h).elim (fun e => e ▸ kL_set) (fun h => h))
abbrev cX2_set : ByteArray := prog_1_method_7_code
def yX2_set : MethodName := ⟨RX2, "set", "(II)V"⟩
abbrev wX2_set : List Cond := .code yX2_set cX2_set 3 none :: tg
theorem kX2_set : Cond.code yX2_set cX2_set 3 none ∈ tg := tg_of 533 (by decide +kernel) rfl
theorem gX2_set : GoodIn tg wX2_set := tg_GoodIn (fun w h => (List.mem_cons.mp h).elim (fun e => e ▸ kX2_set) (fun h => h))
abbrev cL_register : ByteArray := method_9_code
def yL_register : MethodName := ⟨RL, "register", "(LMicroMachine;I[J)I"⟩
abbrev wL_register : List Cond := .codeWith yL_register cL_register 4 (some .int) [(0, 9, 12, 13)] :: tg
theorem kL_register : Cond.codeWith yL_register cL_register 4 (some .int) [(0, 9, 12, 13)] ∈ tg := tg_of 536 (by decide +kernel) rfl
theorem gL_register : GoodIn tg wL_register := tg_GoodIn (fun w h => (List.mem_cons.mp h).elim (fun e => e ▸ kL_register) (fun h => h))
abbrev cX2_register : ByteArray := prog_1_method_8_code
def yX2_register : MethodName := ⟨RX2, "register", "(I)I"⟩
abbrev wX2_register : List Cond := .code yX2_register cX2_register 2 (some .int) :: tg
theorem kX2_register : Cond.code yX2_register cX2_register 2 (some .int) ∈ tg := tg_of 540 (by decide +kernel) rfl
theorem gX2_register : GoodIn tg wX2_register := tg_GoodIn (fun w h => (List.mem_cons.mp h).elim (fun e => e ▸ kX2_register) (fun h => h))
abbrev cL_poke : ByteArray := method_10_code
def yL_poke : MethodName := ⟨RL, "poke", "(LMicroMachine;II)I"⟩
abbrev wL_poke : List Cond := .codeWith yL_poke cL_poke 4 (some .int) [(0, 6, 9, 13)] :: tg
theorem kL_poke : Cond.codeWith yL_poke cL_poke 4 (some .int) [(0, 6, 9, 13)] ∈ tg := tg_of 543 (by decide +kernel) rfl
theorem gL_poke : GoodIn tg wL_poke := tg_GoodIn (fun w h => (List.mem_cons.mp h).elim (fun e => e ▸ kL_poke) (fun h => h))
abbrev cX2_poke : ByteArray := prog_1_method_9_code
def yX2_poke : MethodName := ⟨RX2, "poke", "(II)V"⟩
abbrev wX2_poke : List Cond := .code yX2_poke cX2_poke 3 none :: tg
theorem kX2_poke : Cond.code yX2_poke cX2_poke 3 none ∈ tg := tg_of 547 (by decide +kernel) rfl
theorem gX2_poke : GoodIn tg wX2_poke := tg_GoodIn (fun w h => (List.mem_cons.mp h).elim (fun e => e ▸ kX2_poke) (fun h => h))
abbrev cL_memory : ByteArray := method_11_code
def yL_memory : MethodName := ⟨RL, "memory", "(LMicroMachine;I[J)I"⟩
abbrev wL_memory : List Cond := .codeWith yL_memory cL_memory 4 (some .int) [(0, 9, 12, 13)] :: tg
theorem kL_memory : Cond.codeWith yL_memory cL_memory 4 (some .int) [(0, 9, 12, 13)] ∈ tg := tg_of 550 (by decide +kernel) rfl
theorem gL_memory : GoodIn tg wL_memory := tg_GoodIn (fun w h => (List.mem_cons.mp h).elim (fun e => e ▸ kL_memory) (fun h => h))
abbrev cX2_memory : ByteArray := prog_1_method_10_code
def yX2_memory : MethodName := ⟨RX2, "memory", "(I)I"⟩
abbrev wX2_memory : List Cond := .code yX2_memory cX2_memory 2 (some .int) :: tg
theorem kX2_memory : Cond.code yX2_memory cX2_memory 2 (some .int) ∈ tg := tg_of 554 (by decide +kernel) rfl
theorem gX2_memory : GoodIn tg wX2_memory := tg_GoodIn (fun w h => (List.mem_cons.mp h).elim (fun e => e ▸ kX2_memory) (fun h => h))
abbrev cL_code : ByteArray := method_12_code
def yL_code : MethodName := ⟨RL, "code", "(LMicroMachine;II)I"⟩
abbrev wL_code : List Cond := .codeWith yL_code cL_code 4 (some .int) [(0, 6, 9, 13)] :: tg
theorem kL_code : Cond.codeWith yL_code cL_code 4 (some .int) [(0, 6, 9, 13)] ∈ tg := tg_of 557 (by decide +kernel) rfl
theorem gL_code : GoodIn tg wL_code := tg_GoodIn (fun w h => (List.mem_cons.mp h).elim (fun e => e ▸ kL_code) (fun h => h))
abbrev cX2_code : ByteArray := prog_1_method_11_code
def yX2_code : MethodName := ⟨RX2, "code", "(II)V"⟩
abbrev wX2_code : List Cond := .code yX2_code cX2_code 3 none :: tg
theorem kX2_code : Cond.code yX2_code cX2_code 3 none ∈ tg := tg_of 561 (by decide +kernel) rfl
theorem gX2_code : GoodIn tg wX2_code := tg_GoodIn (fun w h => (List.mem_cons.mp h).elim (fun e => e ▸ kX2_code) (fun h => h))
abbrev cL_told : ByteArray := method_13_code
def yL_told : MethodName := ⟨RL, "told", "(LMicroMachine;II[J)I"⟩
abbrev wL_told : List Cond := .codeWith yL_told cL_told 5 (some .int) [(0, 10, 13, 13), (0, 10, 17, 25)] :: tg
theorem kL_told : Cond.codeWith yL_told cL_told 5 (some .int) [(0, 10, 13, 13), (0, 10, 17, 25)] ∈ tg := tg_of 564 (by decide +kernel) rfl
theorem gL_told : GoodIn tg wL_told := tg_GoodIn (fun w h => (List.mem_cons.mp h).elim (fun e => e ▸ kL_told) (fun h => h))
abbrev cX2_told : ByteArray := prog_1_method_12_code
def yX2_told : MethodName := ⟨RX2, "told", "(II)I"⟩
abbrev wX2_told : List Cond := .code yX2_told cX2_told 4 (some .int) :: tg
theorem kX2_told : Cond.code yX2_told cX2_told 4 (some .int) ∈ tg := tg_of 568 (by decide +kernel) rfl
theorem gX2_told : GoodIn tg wX2_told := tg_GoodIn (fun w h => (List.mem_cons.mp h).elim (fun e => e ▸ kX2_told) (fun h => h))
abbrev cX3_init : ByteArray := prog_5_method_1_code
def yX3_init : MethodName := ⟨RX3, "<init>", "()V"⟩
abbrev wX3_init : List Cond := .code yX3_init cX3_init 1 none :: tg
theorem kX3_init : Cond.code yX3_init cX3_init 1 none ∈ tg := tg_of 573 (by decide +kernel) rfl
theorem gX3_init : GoodIn tg wX3_init := tg_GoodIn (fun w h => (List.mem_cons.mp h).elim (fun e => e ▸ kX3_init) (fun h => h))
abbrev cX3_thrown : ByteArray := prog_5_method_2_code
def yX3_thrown : MethodName := ⟨RX3, "thrown", "()I"⟩
abbrev wX3_thrown : List Cond := .code yX3_thrown cX3_thrown 1 (some .int) :: tg
theorem kX3_thrown : Cond.code yX3_thrown cX3_thrown 1 (some .int) ∈ tg := tg_of 664 (by decide +kernel) rfl
theorem gX3_thrown : GoodIn tg wX3_thrown := tg_GoodIn (fun w h => (List.mem_cons.mp h).elim (fun e => e ▸ kX3_thrown) (fun h => h))
abbrev cX3_type : ByteArray := prog_5_method_3_code
def yX3_type : MethodName := ⟨RX3, "type", "(J)I"⟩
abbrev wX3_type : List Cond := .code yX3_type cX3_type 6 (some .int) :: tg
theorem kX3_type : Cond.code yX3_type cX3_type 6 (some .int) ∈ tg := tg_of 668 (by decide +kernel) rfl
theorem gX3_type : GoodIn tg wX3_type := tg_GoodIn (fun w h => (List.mem_cons.mp h).elim (fun e => e ▸ kX3_type) (fun h => h))
abbrev cX3_word : ByteArray := prog_5_method_16_code
def yX3_word : MethodName := ⟨RX3, "word", "(I)I"⟩
abbrev wX3_word : List Cond := .code yX3_word cX3_word 3 (some .int) :: tg
theorem kX3_word : Cond.code yX3_word cX3_word 3 (some .int) ∈ tg := tg_of 672 (by decide +kernel) rfl
theorem gX3_word : GoodIn tg wX3_word := tg_GoodIn (fun w h => (List.mem_cons.mp h).elim (fun e => e ▸ kX3_word) (fun h => h))
abbrev cX3_reads : ByteArray := prog_5_method_15_code
def yX3_reads : MethodName := ⟨RX3, "reads", "()Z"⟩
abbrev wX3_reads : List Cond := .code yX3_reads cX3_reads 5 (some .boolean) :: tg
theorem kX3_reads : Cond.code yX3_reads cX3_reads 5 (some .boolean) ∈ tg := tg_of 676 (by decide +kernel) rfl
theorem gX3_reads : GoodIn tg wX3_reads := tg_GoodIn (fun w h => (List.mem_cons.mp h).elim (fun e => e ▸ kX3_reads) (fun h => h))
abbrev cX3_look : ByteArray := prog_5_method_4_code
def yX3_look : MethodName := ⟨RX3, "look", "()I"⟩
abbrev wX3_look : List Cond := .code yX3_look cX3_look 1 (some .int) :: tg
theorem kX3_look : Cond.code yX3_look cX3_look 1 (some .int) ∈ tg := tg_of 680 (by decide +kernel) rfl
theorem gX3_look : GoodIn tg wX3_look := tg_GoodIn (fun w h => (List.mem_cons.mp h).elim (fun e => e ▸ kX3_look) (fun h => h))
abbrev cX3_settable : ByteArray := prog_5_method_6_code
def yX3_settable : MethodName := ⟨RX3, "settable", "(I)I"⟩
abbrev wX3_settable : List Cond := .code yX3_settable cX3_settable 2 (some .int) :: tg
theorem kX3_settable : Cond.code yX3_settable cX3_settable 2 (some .int) ∈ tg := tg_of 684 (by decide +kernel) rfl
theorem gX3_settable : GoodIn tg wX3_settable := tg_GoodIn (fun w h => (List.mem_cons.mp h).elim (fun e => e ▸ kX3_settable) (fun h => h))
abbrev cX3_setting : ByteArray := prog_5_method_11_code
def yX3_setting : MethodName := ⟨RX3, "setting", "()Z"⟩
abbrev wX3_setting : List Cond := .code yX3_setting cX3_setting 7 (some .boolean) :: tg
theorem kX3_setting : Cond.code yX3_setting cX3_setting 7 (some .boolean) ∈ tg := tg_of 688 (by decide +kernel) rfl
theorem gX3_setting : GoodIn tg wX3_setting := tg_GoodIn (fun w h => (List.mem_cons.mp h).elim (fun e => e ▸ kX3_setting) (fun h => h))
abbrev cX3_has : ByteArray := prog_5_method_5_code
def yX3_has : MethodName := ⟨RX3, "has", "(I)Z"⟩
abbrev wX3_has : List Cond := .code yX3_has cX3_has 2 (some .boolean) :: tg
theorem kX3_has : Cond.code yX3_has cX3_has 2 (some .boolean) ∈ tg := tg_of 692 (by decide +kernel) rfl
theorem gX3_has : GoodIn tg wX3_has := tg_GoodIn (fun w h => (List.mem_cons.mp h).elim (fun e => e ▸ kX3_has) (fun h => h))
abbrev cX3_value : ByteArray := prog_5_method_10_code
def yX3_value : MethodName := ⟨RX3, "value", "()Z"⟩
abbrev wX3_value : List Cond := .code yX3_value cX3_value 1 (some .boolean) :: tg
theorem kX3_value : Cond.code yX3_value cX3_value 1 (some .boolean) ∈ tg := tg_of 696 (by decide +kernel) rfl
theorem gX3_value : GoodIn tg wX3_value := tg_GoodIn (fun w h => (List.mem_cons.mp h).elim (fun e => e ▸ kX3_value) (fun h => h))
abbrev cX3_plain : ByteArray := prog_5_method_9_code
def yX3_plain : MethodName := ⟨RX3, "plain", "(I)Z"⟩
abbrev wX3_plain : List Cond := .code yX3_plain cX3_plain 2 (some .boolean) :: tg
theorem kX3_plain : Cond.code yX3_plain cX3_plain 2 (some .boolean) ∈ tg := tg_of 700 (by decide +kernel) rfl
theorem gX3_plain : GoodIn tg wX3_plain := tg_GoodIn (fun w h => (List.mem_cons.mp h).elim (fun e => e ▸ kX3_plain) (fun h => h))
abbrev cX3_bus : ByteArray := prog_5_method_8_code
def yX3_bus : MethodName := ⟨RX3, "bus", "(I)Z"⟩
abbrev wX3_bus : List Cond := .code yX3_bus cX3_bus 2 (some .boolean) :: tg
theorem kX3_bus : Cond.code yX3_bus cX3_bus 2 (some .boolean) ∈ tg := tg_of 704 (by decide +kernel) rfl
theorem gX3_bus : GoodIn tg wX3_bus := tg_GoodIn (fun w h => (List.mem_cons.mp h).elim (fun e => e ▸ kX3_bus) (fun h => h))
abbrev cX3_onBus : ByteArray := prog_5_method_7_code
def yX3_onBus : MethodName := ⟨RX3, "onBus", "(I)I"⟩
abbrev wX3_onBus : List Cond := .code yX3_onBus cX3_onBus 2 (some .int) :: tg
theorem kX3_onBus : Cond.code yX3_onBus cX3_onBus 2 (some .int) ∈ tg := tg_of 708 (by decide +kernel) rfl
theorem gX3_onBus : GoodIn tg wX3_onBus := tg_GoodIn (fun w h => (List.mem_cons.mp h).elim (fun e => e ▸ kX3_onBus) (fun h => h))
abbrev cX3_asking : ByteArray := prog_5_method_14_code
def yX3_asking : MethodName := ⟨RX3, "asking", "(I)Z"⟩
abbrev wX3_asking : List Cond := .code yX3_asking cX3_asking 2 (some .boolean) :: tg
theorem kX3_asking : Cond.code yX3_asking cX3_asking 2 (some .boolean) ∈ tg := tg_of 712 (by decide +kernel) rfl
theorem gX3_asking : GoodIn tg wX3_asking := tg_GoodIn (fun w h => (List.mem_cons.mp h).elim (fun e => e ▸ kX3_asking) (fun h => h))
abbrev cX3_going : ByteArray := prog_5_method_13_code
def yX3_going : MethodName := ⟨RX3, "going", "(I)Z"⟩
abbrev wX3_going : List Cond := .code yX3_going cX3_going 2 (some .boolean) :: tg
theorem kX3_going : Cond.code yX3_going cX3_going 2 (some .boolean) ∈ tg := tg_of 716 (by decide +kernel) rfl
theorem gX3_going : GoodIn tg wX3_going := tg_GoodIn (fun w h => (List.mem_cons.mp h).elim (fun e => e ▸ kX3_going) (fun h => h))
abbrev cX3_number : ByteArray := prog_5_method_12_code
def yX3_number : MethodName := ⟨RX3, "number", "()I"⟩
abbrev wX3_number : List Cond := .code yX3_number cX3_number 3 (some .int) :: tg
theorem kX3_number : Cond.code yX3_number cX3_number 3 (some .int) ∈ tg := tg_of 720 (by decide +kernel) rfl
theorem gX3_number : GoodIn tg wX3_number := tg_GoodIn (fun w h => (List.mem_cons.mp h).elim (fun e => e ▸ kX3_number) (fun h => h))
abbrev cX3_erase : ByteArray := prog_5_method_17_code
def yX3_erase : MethodName := ⟨RX3, "erase", "(I)V"⟩
abbrev wX3_erase : List Cond := .code yX3_erase cX3_erase 2 none :: tg
theorem kX3_erase : Cond.code yX3_erase cX3_erase 2 none ∈ tg := tg_of 724 (by decide +kernel) rfl
theorem gX3_erase : GoodIn tg wX3_erase := tg_GoodIn (fun w h => (List.mem_cons.mp h).elim (fun e => e ▸ kX3_erase) (fun h => h))
abbrev cX3_begin : ByteArray := prog_5_method_18_code
def yX3_begin : MethodName := ⟨RX3, "begin", "(I)V"⟩
abbrev wX3_begin : List Cond := .code yX3_begin cX3_begin 2 none :: tg
theorem kX3_begin : Cond.code yX3_begin cX3_begin 2 none ∈ tg := tg_of 728 (by decide +kernel) rfl
theorem gX3_begin : GoodIn tg wX3_begin := tg_GoodIn (fun w h => (List.mem_cons.mp h).elim (fun e => e ▸ kX3_begin) (fun h => h))
abbrev cX3_run : ByteArray := prog_5_method_22_code
def yX3_run : MethodName := ⟨RX3, "run", "(I)I"⟩
abbrev wX3_run : List Cond := .code yX3_run cX3_run 3 (some .int) :: tg
theorem kX3_run : Cond.code yX3_run cX3_run 3 (some .int) ∈ tg := tg_of 732 (by decide +kernel) rfl
theorem gX3_run : GoodIn tg wX3_run := tg_GoodIn (fun w h => (List.mem_cons.mp h).elim (fun e => e ▸ kX3_run) (fun h => h))
abbrev cX3_cycle : ByteArray := prog_5_method_21_code
def yX3_cycle : MethodName := ⟨RX3, "cycle", "(I)V"⟩
abbrev wX3_cycle : List Cond := .code yX3_cycle cX3_cycle 9 none :: tg
theorem kX3_cycle : Cond.code yX3_cycle cX3_cycle 9 none ∈ tg := tg_of 736 (by decide +kernel) rfl
theorem gX3_cycle : GoodIn tg wX3_cycle := tg_GoodIn (fun w h => (List.mem_cons.mp h).elim (fun e => e ▸ kX3_cycle) (fun h => h))
abbrev cX3_result : ByteArray := prog_5_method_19_code
def yX3_result : MethodName := ⟨RX3, "result", "(I)I"⟩
abbrev wX3_result : List Cond := .code yX3_result cX3_result 5 (some .int) :: tg
theorem kX3_result : Cond.code yX3_result cX3_result 5 (some .int) ∈ tg := tg_of 740 (by decide +kernel) rfl
theorem gX3_result : GoodIn tg wX3_result := tg_GoodIn (fun w h => (List.mem_cons.mp h).elim (fun e => e ▸ kX3_result) (fun h => h))
abbrev cX3_then : ByteArray := prog_5_method_20_code
def yX3_then : MethodName := ⟨RX3, "then", "(III)I"⟩
abbrev wX3_then : List Cond := .code yX3_then cX3_then 4 (some .int) :: tg
theorem kX3_then : Cond.code yX3_then cX3_then 4 (some .int) ∈ tg := tg_of 744 (by decide +kernel) rfl
theorem gX3_then : GoodIn tg wX3_then := tg_GoodIn (fun w h => (List.mem_cons.mp h).elim (fun e => e ▸ kX3_then) (fun h => h))
abbrev cX3_set : ByteArray := prog_5_method_23_code
def yX3_set : MethodName := ⟨RX3, "set", "(II)V"⟩
abbrev wX3_set : List Cond := .code yX3_set cX3_set 3 none :: tg
theorem kX3_set : Cond.code yX3_set cX3_set 3 none ∈ tg := tg_of 748 (by decide +kernel) rfl
theorem gX3_set : GoodIn tg wX3_set := tg_GoodIn (fun w h => (List.mem_cons.mp h).elim (fun e => e ▸ kX3_set) (fun h => h))
abbrev cX3_register : ByteArray := prog_5_method_24_code
def yX3_register : MethodName := ⟨RX3, "register", "(I)I"⟩
abbrev wX3_register : List Cond := .code yX3_register cX3_register 2 (some .int) :: tg
theorem kX3_register : Cond.code yX3_register cX3_register 2 (some .int) ∈ tg := tg_of 752 (by decide +kernel) rfl
theorem gX3_register : GoodIn tg wX3_register := tg_GoodIn (fun w h => (List.mem_cons.mp h).elim (fun e => e ▸ kX3_register) (fun h => h))
abbrev cX3_poke : ByteArray := prog_5_method_25_code
def yX3_poke : MethodName := ⟨RX3, "poke", "(II)V"⟩
abbrev wX3_poke : List Cond := .code yX3_poke cX3_poke 3 none :: tg
theorem kX3_poke : Cond.code yX3_poke cX3_poke 3 none ∈ tg := tg_of 756 (by decide +kernel) rfl
theorem gX3_poke : GoodIn tg wX3_poke := tg_GoodIn (fun w h => (List.mem_cons.mp h).elim (fun e => e ▸ kX3_poke) (fun h => h))
abbrev cX3_memory : ByteArray := prog_5_method_26_code
def yX3_memory : MethodName := ⟨RX3, "memory", "(I)I"⟩
abbrev wX3_memory : List Cond := .code yX3_memory cX3_memory 2 (some .int) :: tg
theorem kX3_memory : Cond.code yX3_memory cX3_memory 2 (some .int) ∈ tg := tg_of 760 (by decide +kernel) rfl
theorem gX3_memory : GoodIn tg wX3_memory := tg_GoodIn (fun w h => (List.mem_cons.mp h).elim (fun e => e ▸ kX3_memory) (fun h => h))
abbrev cX3_code : ByteArray := prog_5_method_27_code
def yX3_code : MethodName := ⟨RX3, "code", "(II)V"⟩
abbrev wX3_code : List Cond := .code yX3_code cX3_code 3 none :: tg
theorem kX3_code : Cond.code yX3_code cX3_code 3 none ∈ tg := tg_of 764 (by decide +kernel) rfl
theorem gX3_code : GoodIn tg wX3_code := tg_GoodIn (fun w h => (List.mem_cons.mp h).elim (fun e => e ▸ kX3_code) (fun h => h))
abbrev cX3_told : ByteArray := prog_5_method_28_code
def yX3_told : MethodName := ⟨RX3, "told", "(II)I"⟩
abbrev wX3_told : List Cond := .code yX3_told cX3_told 3 (some .int) :: tg
theorem kX3_told : Cond.code yX3_told cX3_told 3 (some .int) ∈ tg := tg_of 768 (by decide +kernel) rfl
theorem gX3_told : GoodIn tg wX3_told := tg_GoodIn (fun w h => (List.mem_cons.mp h).elim (fun e => e ▸ kX3_told) (fun h => h))
abbrev cX3_count : ByteArray := prog_5_method_29_code
def yX3_count : MethodName := ⟨RX3, "count", "(I)I"⟩
abbrev wX3_count : List Cond := .code yX3_count cX3_count 4 (some .int) :: tg
theorem kX3_count : Cond.code yX3_count cX3_count 4 (some .int) ∈ tg := tg_of 772 (by decide +kernel) rfl
theorem gX3_count : GoodIn tg wX3_count := tg_GoodIn (fun w h => (List.mem_cons.mp h).elim (fun e => e ▸ kX3_count) (fun h => h))
abbrev cJ0_indexOf : ByteArray := prog_13_method_79_code
def yJ0_indexOf : MethodName := ⟨"java/lang/String", "indexOf", "(I)I"⟩
abbrev wJ0_indexOf : List Cond := .code yJ0_indexOf cJ0_indexOf 2 (some .int) :: tg
theorem kJ0_indexOf : Cond.code yJ0_indexOf cJ0_indexOf 2 (some .int) ∈ tg := tg_of 320 (by decide +kernel) rfl
theorem gJ0_indexOf : GoodIn tg wJ0_indexOf := tg_GoodIn (fun w h => (List.mem_cons.mp h).elim (fun e => e ▸ kJ0_indexOf) (fun h => h))
abbrev cJ0_indexOf2 : ByteArray := prog_13_method_80_code
def yJ0_indexOf2 : MethodName := ⟨"java/lang/String", "indexOf", "(II)I"⟩
abbrev wJ0_indexOf2 : List Cond := .code yJ0_indexOf2 cJ0_indexOf2 3 (some .int) :: tg
theorem kJ0_indexOf2 : Cond.code yJ0_indexOf2 cJ0_indexOf2 3 (some .int) ∈ tg := tg_of 324 (by decide +kernel) rfl
theorem gJ0_indexOf2 : GoodIn tg wJ0_indexOf2 := tg_GoodIn (fun w h => (List.mem_cons.mp h).elim (fun e => e ▸ kJ0_indexOf2) (fun h => h))
abbrev cJ0_isLatin1 : ByteArray := prog_13_method_154_code
def yJ0_isLatin1 : MethodName := ⟨"java/lang/String", "isLatin1", "()Z"⟩
abbrev wJ0_isLatin1 : List Cond := .code yJ0_isLatin1 cJ0_isLatin1 1 (some .boolean) :: tg
theorem kJ0_isLatin1 : Cond.code yJ0_isLatin1 cJ0_isLatin1 1 (some .boolean) ∈ tg := tg_of 328 (by decide +kernel) rfl
theorem gJ0_isLatin1 : GoodIn tg wJ0_isLatin1 := tg_GoodIn (fun w h => (List.mem_cons.mp h).elim (fun e => e ▸ kJ0_isLatin1) (fun h => h))
abbrev cJ1_indexOf : ByteArray := prog_14_method_22_code
def yJ1_indexOf : MethodName := ⟨"java/lang/StringLatin1", "indexOf", "([BIII)I"⟩
abbrev wJ1_indexOf : List Cond := .code yJ1_indexOf cJ1_indexOf 4 (some .int) :: tg
theorem kJ1_indexOf : Cond.code yJ1_indexOf cJ1_indexOf 4 (some .int) ∈ tg := tg_of 341 (by decide +kernel) rfl
theorem gJ1_indexOf : GoodIn tg wJ1_indexOf := tg_GoodIn (fun w h => (List.mem_cons.mp h).elim (fun e => e ▸ kJ1_indexOf) (fun h => h))
abbrev cJ1_canEncode : ByteArray := prog_14_method_4_code
def yJ1_canEncode : MethodName := ⟨"java/lang/StringLatin1", "canEncode", "(I)Z"⟩
abbrev wJ1_canEncode : List Cond := .code yJ1_canEncode cJ1_canEncode 1 (some .boolean) :: tg
theorem kJ1_canEncode : Cond.code yJ1_canEncode cJ1_canEncode 1 (some .boolean) ∈ tg := tg_of 344 (by decide +kernel) rfl
theorem gJ1_canEncode : GoodIn tg wJ1_canEncode := tg_GoodIn (fun w h => (List.mem_cons.mp h).elim (fun e => e ▸ kJ1_canEncode) (fun h => h))
abbrev cJ1_indexOfChar : ByteArray := prog_14_method_23_code
def yJ1_indexOfChar : MethodName := ⟨"java/lang/StringLatin1", "indexOfChar", "([BIII)I"⟩
abbrev wJ1_indexOfChar : List Cond := .code yJ1_indexOfChar cJ1_indexOfChar 6 (some .int) :: tg
theorem kJ1_indexOfChar : Cond.code yJ1_indexOfChar cJ1_indexOfChar 6 (some .int) ∈ tg := tg_of 353 (by decide +kernel) rfl
theorem gJ1_indexOfChar : GoodIn tg wJ1_indexOfChar := tg_GoodIn (fun w h => (List.mem_cons.mp h).elim (fun e => e ▸ kJ1_indexOfChar) (fun h => h))
abbrev cL_law : ByteArray := code
def yL_law : MethodName := ⟨RL, "law", "([I)Z"⟩
