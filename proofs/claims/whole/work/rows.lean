section
-- ===== PART A: goes FIRST, ahead of the names: the tables' words, and 'selects' of the private methods out of them =====
/-- a private method of a class that the tables say can be made, by its rows of tables_1 -/
def lw_okq (q : MethodName × Nat) : Prop := (q.1.cls ≠ "java/lang/invoke/MethodHandle" ∧ q.1.cls ≠ "java/lang/invoke/VarHandle") ∧ Cond.instantiable q.1.cls q.2 ∈ tables_1 ∧ Cond.privateMethod q.1 ∈ tables_1 ∧ Cond.instanceMethod q.1 ∈ tables_1
theorem lw_p0 : lw_okq (⟨"WorkerRows", "toolAt", "(I)LWorkerRows$Tool;"⟩, 10) := ⟨⟨by decide +kernel, by decide +kernel⟩, List.mem_of_getElem? (i := 8) (by decide +kernel), List.mem_of_getElem? (i := 93) (by decide +kernel), List.mem_of_getElem? (i := 94) (by decide +kernel)⟩
theorem lw_p1 : lw_okq (⟨"WorkerRows", "requestAt", "(I)LWorkerRows$Request;"⟩, 10) := ⟨⟨by decide +kernel, by decide +kernel⟩, List.mem_of_getElem? (i := 8) (by decide +kernel), List.mem_of_getElem? (i := 164) (by decide +kernel), List.mem_of_getElem? (i := 165) (by decide +kernel)⟩
theorem lw_p2 : lw_okq (⟨"WorkerRows", "moveOn", "(LWorkerRows$Request;)Z"⟩, 10) := ⟨⟨by decide +kernel, by decide +kernel⟩, List.mem_of_getElem? (i := 8) (by decide +kernel), List.mem_of_getElem? (i := 172) (by decide +kernel), List.mem_of_getElem? (i := 173) (by decide +kernel)⟩
theorem lw_p3 : lw_okq (⟨"WorkerRows", "firstFree", "(LWorkerRows$Tool;)LWorkerRows$Worker;"⟩, 10) := ⟨⟨by decide +kernel, by decide +kernel⟩, List.mem_of_getElem? (i := 8) (by decide +kernel), List.mem_of_getElem? (i := 183) (by decide +kernel), List.mem_of_getElem? (i := 184) (by decide +kernel)⟩
theorem lw_p4 : lw_okq (⟨"WorkerRows", "startWorker", "(LWorkerRows$Tool;)LWorkerRows$Worker;"⟩, 10) := ⟨⟨by decide +kernel, by decide +kernel⟩, List.mem_of_getElem? (i := 8) (by decide +kernel), List.mem_of_getElem? (i := 190) (by decide +kernel), List.mem_of_getElem? (i := 191) (by decide +kernel)⟩
theorem lw_p5 : lw_okq (⟨"WorkerRows", "countStaying", "(LWorkerRows$Tool;)I"⟩, 10) := ⟨⟨by decide +kernel, by decide +kernel⟩, List.mem_of_getElem? (i := 8) (by decide +kernel), List.mem_of_getElem? (i := 194) (by decide +kernel), List.mem_of_getElem? (i := 195) (by decide +kernel)⟩
theorem lw_p6 : lw_okq (⟨"WorkerRows", "workerAt", "(I)LWorkerRows$Worker;"⟩, 10) := ⟨⟨by decide +kernel, by decide +kernel⟩, List.mem_of_getElem? (i := 8) (by decide +kernel), List.mem_of_getElem? (i := 241) (by decide +kernel), List.mem_of_getElem? (i := 242) (by decide +kernel)⟩
theorem lw_p7 : lw_okq (⟨"WorkerRows", "redoUntrusted", "(LWorkerRows$Request;LWorkerRows$Worker;)I"⟩, 10) := ⟨⟨by decide +kernel, by decide +kernel⟩, List.mem_of_getElem? (i := 8) (by decide +kernel), List.mem_of_getElem? (i := 261) (by decide +kernel), List.mem_of_getElem? (i := 262) (by decide +kernel)⟩
theorem lw_p8 : lw_okq (⟨"WorkerRowsModel", "goes", "(I)Z"⟩, 29) := ⟨⟨by decide +kernel, by decide +kernel⟩, List.mem_of_getElem? (i := 288) (by decide +kernel), List.mem_of_getElem? (i := 412) (by decide +kernel), List.mem_of_getElem? (i := 413) (by decide +kernel)⟩
theorem lw_p9 : lw_okq (⟨"WorkerRowsModel", "answers", "(IJ)V"⟩, 29) := ⟨⟨by decide +kernel, by decide +kernel⟩, List.mem_of_getElem? (i := 288) (by decide +kernel), List.mem_of_getElem? (i := 421) (by decide +kernel), List.mem_of_getElem? (i := 422) (by decide +kernel)⟩
theorem lw_p10 : lw_okq (⟨"WorkerRowsModel", "freeOne", "(I)I"⟩, 29) := ⟨⟨by decide +kernel, by decide +kernel⟩, List.mem_of_getElem? (i := 288) (by decide +kernel), List.mem_of_getElem? (i := 425) (by decide +kernel), List.mem_of_getElem? (i := 426) (by decide +kernel)⟩
theorem lw_p11 : lw_okq (⟨"WorkerRowsModel", "alive", "(I)I"⟩, 29) := ⟨⟨by decide +kernel, by decide +kernel⟩, List.mem_of_getElem? (i := 288) (by decide +kernel), List.mem_of_getElem? (i := 429) (by decide +kernel), List.mem_of_getElem? (i := 430) (by decide +kernel)⟩
theorem lw_p12 : lw_okq (⟨"WorkerRowsModel", "newOne", "(I)I"⟩, 29) := ⟨⟨by decide +kernel, by decide +kernel⟩, List.mem_of_getElem? (i := 288) (by decide +kernel), List.mem_of_getElem? (i := 433) (by decide +kernel), List.mem_of_getElem? (i := 434) (by decide +kernel)⟩
theorem lw_p13 : lw_okq (⟨"WorkerRowsModel", "isBusy", "(I)Z"⟩, 29) := ⟨⟨by decide +kernel, by decide +kernel⟩, List.mem_of_getElem? (i := 288) (by decide +kernel), List.mem_of_getElem? (i := 441) (by decide +kernel), List.mem_of_getElem? (i := 442) (by decide +kernel)⟩
theorem lw_p14 : lw_okq (⟨"WorkerRowsModel", "lets", "(I)Z"⟩, 29) := ⟨⟨by decide +kernel, by decide +kernel⟩, List.mem_of_getElem? (i := 288) (by decide +kernel), List.mem_of_getElem? (i := 445) (by decide +kernel), List.mem_of_getElem? (i := 446) (by decide +kernel)⟩
theorem lw_p15 : lw_okq (⟨"WorkerRowsModel", "ends", "(II)I"⟩, 29) := ⟨⟨by decide +kernel, by decide +kernel⟩, List.mem_of_getElem? (i := 288) (by decide +kernel), List.mem_of_getElem? (i := 449) (by decide +kernel), List.mem_of_getElem? (i := 450) (by decide +kernel)⟩
def lw_privs_1 : List (MethodName × Nat) := [(⟨"WorkerRows", "toolAt", "(I)LWorkerRows$Tool;"⟩, 10), (⟨"WorkerRows", "requestAt", "(I)LWorkerRows$Request;"⟩, 10), (⟨"WorkerRows", "moveOn", "(LWorkerRows$Request;)Z"⟩, 10), (⟨"WorkerRows", "firstFree", "(LWorkerRows$Tool;)LWorkerRows$Worker;"⟩, 10), (⟨"WorkerRows", "startWorker", "(LWorkerRows$Tool;)LWorkerRows$Worker;"⟩, 10), (⟨"WorkerRows", "countStaying", "(LWorkerRows$Tool;)I"⟩, 10), (⟨"WorkerRows", "workerAt", "(I)LWorkerRows$Worker;"⟩, 10), (⟨"WorkerRows", "redoUntrusted", "(LWorkerRows$Request;LWorkerRows$Worker;)I"⟩, 10), (⟨"WorkerRowsModel", "goes", "(I)Z"⟩, 29), (⟨"WorkerRowsModel", "answers", "(IJ)V"⟩, 29), (⟨"WorkerRowsModel", "freeOne", "(I)I"⟩, 29), (⟨"WorkerRowsModel", "alive", "(I)I"⟩, 29), (⟨"WorkerRowsModel", "newOne", "(I)I"⟩, 29), (⟨"WorkerRowsModel", "isBusy", "(I)Z"⟩, 29), (⟨"WorkerRowsModel", "lets", "(I)Z"⟩, 29), (⟨"WorkerRowsModel", "ends", "(II)I"⟩, 29)]
theorem lw_r1 : ∀ q ∈ lw_privs_1, lw_okq q := List.forall_mem_cons.mpr ⟨lw_p0, List.forall_mem_cons.mpr ⟨lw_p1, List.forall_mem_cons.mpr ⟨lw_p2, List.forall_mem_cons.mpr ⟨lw_p3, List.forall_mem_cons.mpr ⟨lw_p4, List.forall_mem_cons.mpr ⟨lw_p5, List.forall_mem_cons.mpr ⟨lw_p6, List.forall_mem_cons.mpr ⟨lw_p7, List.forall_mem_cons.mpr ⟨lw_p8, List.forall_mem_cons.mpr ⟨lw_p9, List.forall_mem_cons.mpr ⟨lw_p10, List.forall_mem_cons.mpr ⟨lw_p11, List.forall_mem_cons.mpr ⟨lw_p12, List.forall_mem_cons.mpr ⟨lw_p13, List.forall_mem_cons.mpr ⟨lw_p14, List.forall_mem_cons.mpr ⟨lw_p15, fun _ h => absurd h List.not_mem_nil⟩⟩⟩⟩⟩⟩⟩⟩⟩⟩⟩⟩⟩⟩⟩⟩
theorem lw_p16 : lw_okq (⟨"WorkerRowsModel", "waitsAgain", "(I)V"⟩, 29) := ⟨⟨by decide +kernel, by decide +kernel⟩, List.mem_of_getElem? (i := 288) (by decide +kernel), List.mem_of_getElem? (i := 461) (by decide +kernel), List.mem_of_getElem? (i := 462) (by decide +kernel)⟩
theorem lw_p17 : lw_okq (⟨"WorkerRowsModel", "isDoneBy", "(II)Z"⟩, 29) := ⟨⟨by decide +kernel, by decide +kernel⟩, List.mem_of_getElem? (i := 288) (by decide +kernel), List.mem_of_getElem? (i := 474) (by decide +kernel), List.mem_of_getElem? (i := 475) (by decide +kernel)⟩
def lw_privs_2 : List (MethodName × Nat) := [(⟨"WorkerRowsModel", "waitsAgain", "(I)V"⟩, 29), (⟨"WorkerRowsModel", "isDoneBy", "(II)Z"⟩, 29)]
theorem lw_r2 : ∀ q ∈ lw_privs_2, lw_okq q := List.forall_mem_cons.mpr ⟨lw_p16, List.forall_mem_cons.mpr ⟨lw_p17, fun _ h => absurd h List.not_mem_nil⟩⟩
def lw_privs : List (MethodName × Nat) := lw_privs_1 ++ (lw_privs_2)
def lw_tbl : List Cond := k2_sels lw_privs ++ tables_1
theorem lw_privs_ok : ∀ q ∈ lw_privs, lw_okq q := by
  show ∀ q ∈ lw_privs_1 ++ (lw_privs_2), lw_okq q
  exact List.forall_mem_append.mpr ⟨lw_r1, lw_r2⟩

def RX0 : String := "WorkerRows$Request"
def TX0 : u_T := fun k => match k with
  | 0 => ("WorkerRows$Request", "number", "I", true)
  | 1 => ("WorkerRows$Request", "tool", "LWorkerRows$Tool;", true)
  | 2 => ("WorkerRows$Request", "input", "J", true)
  | 3 => ("WorkerRows$Request", "size", "I", true)
  | 4 => ("WorkerRows$Request", "state", "I", false)
  | 5 => ("WorkerRows$Request", "begun", "I", false)
  | 6 => ("WorkerRows$Request", "unwanted", "Z", false)
  | 7 => ("WorkerRows$Request", "redone", "Z", false)
  | 8 => ("WorkerRows$Request", "result", "J", false)
  | 9 => ("WorkerRows$Request", "worker", "LWorkerRows$Worker;", false)
  | _ => ("WorkerRows$Request", "place", "I", false)
def tyX0 : Nat → FieldType := fun k => match k with
  | 0 => .int
  | 1 => .object "WorkerRows$Tool"
  | 2 => .long
  | 3 => .int
  | 4 => .int
  | 5 => .int
  | 6 => .boolean
  | 7 => .boolean
  | 8 => .long
  | 9 => .object "WorkerRows$Worker"
  | _ => .int
abbrev wsX00 : List Cond := u_ws RX0 TX0 11
theorem nmX0 : ∀ a, a < 11 → ∀ b, b < 11 → a ≠ b → (TX0 a).2.1 ≠ (TX0 b).2.1 := by decide +kernel
theorem tyX0_ok : ∀ k, k < 11 → parseFieldDescriptor (TX0 k).2.2.1 = some (tyX0 k) := by decide +kernel
def RX1 : String := "WorkerRows$Tool"
def TX1 : u_T := fun k => match k with
  | 0 => ("WorkerRows$Tool", "number", "I", true)
  | 1 => ("WorkerRows$Tool", "edition", "J", false)
  | 2 => ("WorkerRows$Tool", "quirk", "I", false)
  | _ => ("WorkerRows$Tool", "bars", "I", false)
def tyX1 : Nat → FieldType := fun k => match k with
  | 0 => .int
  | 1 => .long
  | 2 => .int
  | _ => .int
abbrev wsX10 : List Cond := u_ws RX1 TX1 4
theorem nmX1 : ∀ a, a < 4 → ∀ b, b < 4 → a ≠ b → (TX1 a).2.1 ≠ (TX1 b).2.1 := by decide +kernel
theorem tyX1_ok : ∀ k, k < 4 → parseFieldDescriptor (TX1 k).2.2.1 = some (tyX1 k) := by decide +kernel
def RX2 : String := "WorkerRows$Worker"
def TX2 : u_T := fun k => match k with
  | 0 => ("WorkerRows$Worker", "number", "I", true)
  | 1 => ("WorkerRows$Worker", "tool", "LWorkerRows$Tool;", true)
  | 2 => ("WorkerRows$Worker", "edition", "J", true)
  | 3 => ("WorkerRows$Worker", "finished", "I", false)
  | 4 => ("WorkerRows$Worker", "trusted", "I", false)
  | 5 => ("WorkerRows$Worker", "memory", "I", false)
  | 6 => ("WorkerRows$Worker", "freeSince", "I", false)
  | 7 => ("WorkerRows$Worker", "endedBy", "I", false)
  | _ => ("WorkerRows$Worker", "request", "LWorkerRows$Request;", false)
def tyX2 : Nat → FieldType := fun k => match k with
  | 0 => .int
  | 1 => .object "WorkerRows$Tool"
  | 2 => .long
  | 3 => .int
  | 4 => .int
  | 5 => .int
  | 6 => .int
  | 7 => .int
  | _ => .object "WorkerRows$Request"
abbrev wsX20 : List Cond := u_ws RX2 TX2 9
theorem nmX2 : ∀ a, a < 9 → ∀ b, b < 9 → a ≠ b → (TX2 a).2.1 ≠ (TX2 b).2.1 := by decide +kernel
theorem tyX2_ok : ∀ k, k < 9 → parseFieldDescriptor (TX2 k).2.2.1 = some (tyX2 k) := by decide +kernel
def RX3 : String := "WorkerRows"
def TX3 : u_T := fun k => match k with
  | 0 => ("WorkerRows", "most", "I", true)
  | 1 => ("WorkerRows", "bound", "I", true)
  | 2 => ("WorkerRows", "idle", "I", true)
  | 3 => ("WorkerRows", "clock", "I", false)
  | 4 => ("WorkerRows", "tools", "[LWorkerRows$Tool;", true)
  | 5 => ("WorkerRows", "workers", "[LWorkerRows$Worker;", true)
  | 6 => ("WorkerRows", "requests", "[LWorkerRows$Request;", true)
  | 7 => ("WorkerRows", "toolCount", "I", false)
  | 8 => ("WorkerRows", "workerCount", "I", false)
  | _ => ("WorkerRows", "requestCount", "I", false)
def tyX3 : Nat → FieldType := fun k => match k with
  | 0 => .int
  | 1 => .int
  | 2 => .int
  | 3 => .int
  | 4 => .array (.object "WorkerRows$Tool")
  | 5 => .array (.object "WorkerRows$Worker")
  | 6 => .array (.object "WorkerRows$Request")
  | 7 => .int
  | 8 => .int
  | _ => .int
abbrev wsX30 : List Cond := u_ws RX3 TX3 10
theorem nmX3 : ∀ a, a < 10 → ∀ b, b < 10 → a ≠ b → (TX3 a).2.1 ≠ (TX3 b).2.1 := by decide +kernel
theorem tyX3_ok : ∀ k, k < 10 → parseFieldDescriptor (TX3 k).2.2.1 = some (tyX3 k) := by decide +kernel

def RX4 : String := "WorkerRowsModel"
def TX4 : u_T := fun k => match k with
  | 0 => ("WorkerRowsModel", "most", "I", true)
  | 1 => ("WorkerRowsModel", "bound", "I", true)
  | 2 => ("WorkerRowsModel", "idle", "I", true)
  | 3 => ("WorkerRowsModel", "clock", "I", false)
  | 4 => ("WorkerRowsModel", "tools", "I", false)
  | 5 => ("WorkerRowsModel", "workers", "I", false)
  | 6 => ("WorkerRowsModel", "requests", "I", false)
  | 7 => ("WorkerRowsModel", "editionOf", "[J", true)
  | 8 => ("WorkerRowsModel", "quirkOf", "[I", true)
  | 9 => ("WorkerRowsModel", "barsOf", "[I", true)
  | 10 => ("WorkerRowsModel", "toolOf", "[I", true)
  | 11 => ("WorkerRowsModel", "state", "[I", true)
  | 12 => ("WorkerRowsModel", "finished", "[I", true)
  | 13 => ("WorkerRowsModel", "memory", "[I", true)
  | 14 => ("WorkerRowsModel", "busyWith", "[I", true)
  | 15 => ("WorkerRowsModel", "why", "[I", true)
  | 16 => ("WorkerRowsModel", "trusted", "[I", true)
  | 17 => ("WorkerRowsModel", "since", "[I", true)
  | 18 => ("WorkerRowsModel", "startedWith", "[J", true)
  | 19 => ("WorkerRowsModel", "wants", "[I", true)
  | 20 => ("WorkerRowsModel", "size", "[I", true)
  | 21 => ("WorkerRowsModel", "kind", "[I", true)
  | 22 => ("WorkerRowsModel", "by", "[I", true)
  | 23 => ("WorkerRowsModel", "place", "[I", true)
  | 24 => ("WorkerRowsModel", "begun", "[I", true)
  | 25 => ("WorkerRowsModel", "isUnwanted", "[Z", true)
  | 26 => ("WorkerRowsModel", "isRedone", "[Z", true)
  | 27 => ("WorkerRowsModel", "input", "[J", true)
  | _ => ("WorkerRowsModel", "gave", "[J", true)
def tyX4 : Nat → FieldType := fun k => match k with
  | 0 => .int
  | 1 => .int
  | 2 => .int
  | 3 => .int
  | 4 => .int
  | 5 => .int
  | 6 => .int
  | 7 => .array .long
  | 8 => .array .int
  | 9 => .array .int
  | 10 => .array .int
  | 11 => .array .int
  | 12 => .array .int
  | 13 => .array .int
  | 14 => .array .int
  | 15 => .array .int
  | 16 => .array .int
  | 17 => .array .int
  | 18 => .array .long
  | 19 => .array .int
  | 20 => .array .int
  | 21 => .array .int
  | 22 => .array .int
  | 23 => .array .int
  | 24 => .array .int
  | 25 => .array .boolean
  | 26 => .array .boolean
  | 27 => .array .long
  | _ => .array .long
theorem nmX4 : ∀ a, a < 29 → ∀ b, b < 29 → a ≠ b → (TX4 a).2.1 ≠ (TX4 b).2.1 := by decide +kernel
theorem tyX4_ok : ∀ k, k < 29 → parseFieldDescriptor (TX4 k).2.2.1 = some (tyX4 k) := by decide +kernel
def RL : String := "WorkerRowsLaw"
abbrev vwCl : List vw_C := [(RX0, TX0, 11), (RX1, TX1, 4), (RX2, TX2, 9), (RX3, TX3, 10), (RX4, TX4, 29)]
/-- the words of the tables that a callee may keep -/
def wA : List Cond := lw_tbl.filter goodWord
theorem wA_of {n : Nat} {w : Cond} (h : lw_tbl[n]? = some w) (g : goodWord w = true) : w ∈ wA := List.mem_filter.mpr ⟨List.mem_of_getElem? h, g⟩
theorem wA_good : ∀ w ∈ wA, goodWord w = true := fun w h => (List.mem_filter.mp h).2
theorem wA_tbl : ∀ w ∈ wA, w ∈ lw_tbl := fun w h => (List.mem_filter.mp h).1
set_option maxRecDepth 20000 in
theorem inX0 : ∀ w ∈ u_ws RX0 TX0 11, w ∈ wA := by decide +kernel
set_option maxRecDepth 20000 in
theorem inX1 : ∀ w ∈ u_ws RX1 TX1 4, w ∈ wA := by decide +kernel
set_option maxRecDepth 20000 in
theorem inX2 : ∀ w ∈ u_ws RX2 TX2 9, w ∈ wA := by decide +kernel
set_option maxRecDepth 20000 in
theorem inX3 : ∀ w ∈ u_ws RX3 TX3 10, w ∈ wA := by decide +kernel
set_option maxRecDepth 20000 in
theorem inX4 : ∀ w ∈ u_ws RX4 TX4 29, w ∈ wA := by decide +kernel
abbrev bC_init : ByteArray := prog_1_method_1_code
def yC_init : MethodName := ⟨RX3, "<init>", "(III)V"⟩
abbrev bC_tool : ByteArray := prog_1_method_2_code
def yC_tool : MethodName := ⟨RX3, "tool", "(JI)I"⟩
abbrev bC_edition : ByteArray := prog_1_method_3_code
def yC_edition : MethodName := ⟨RX3, "edition", "(IJ)I"⟩
abbrev bC_quirk : ByteArray := prog_1_method_4_code
def yC_quirk : MethodName := ⟨RX3, "quirk", "(II)Z"⟩
abbrev bC_request : ByteArray := prog_1_method_5_code
def yC_request : MethodName := ⟨RX3, "request", "(IJI)I"⟩
abbrev bC_cancel : ByteArray := prog_1_method_6_code
def yC_cancel : MethodName := ⟨RX3, "cancel", "(I)I"⟩
abbrev bC_step : ByteArray := prog_1_method_7_code
def yC_step : MethodName := ⟨RX3, "step", "()I"⟩
abbrev bC_finish : ByteArray := prog_1_method_8_code
def yC_finish : MethodName := ⟨RX3, "finish", "(I)I"⟩
abbrev bC_crash : ByteArray := prog_1_method_9_code
def yC_crash : MethodName := ⟨RX3, "crash", "(I)I"⟩
abbrev bC_tick : ByteArray := prog_1_method_10_code
def yC_tick : MethodName := ⟨RX3, "tick", "(I)I"⟩
abbrev bC_sample : ByteArray := prog_1_method_11_code
def yC_sample : MethodName := ⟨RX3, "sample", "(I)I"⟩
abbrev bC_about : ByteArray := prog_1_method_12_code
def yC_about : MethodName := ⟨RX3, "about", "(II)I"⟩
abbrev bC_result : ByteArray := prog_1_method_13_code
def yC_result : MethodName := ⟨RX3, "result", "(I)J"⟩
abbrev bC_worker : ByteArray := prog_1_method_14_code
def yC_worker : MethodName := ⟨RX3, "worker", "(II)I"⟩
abbrev bC_bars : ByteArray := prog_1_method_15_code
def yC_bars : MethodName := ⟨RX3, "bars", "(I)I"⟩
abbrev bC_oneShot : ByteArray := prog_1_method_16_code
def yC_oneShot : MethodName := ⟨RX3, "oneShot", "(JJ)J"⟩
abbrev bC_nearest : ByteArray := prog_1_method_17_code
def yC_nearest : MethodName := ⟨RX3, "nearest", "(III)I"⟩
abbrev bC_freshRun : ByteArray := prog_1_method_18_code
def yC_freshRun : MethodName := ⟨RX3, "freshRun", "(JJ)J"⟩
abbrev bC_whatItGives : ByteArray := prog_1_method_19_code
def yC_whatItGives : MethodName := ⟨RX3, "whatItGives", "(LWorkerRows$Worker;LWorkerRows$Request;)J"⟩
abbrev bC_toolAt : ByteArray := prog_1_method_20_code
def yC_toolAt : MethodName := ⟨RX3, "toolAt", "(I)LWorkerRows$Tool;"⟩
abbrev bC_workerAt : ByteArray := prog_1_method_21_code
def yC_workerAt : MethodName := ⟨RX3, "workerAt", "(I)LWorkerRows$Worker;"⟩
abbrev bC_requestAt : ByteArray := prog_1_method_22_code
def yC_requestAt : MethodName := ⟨RX3, "requestAt", "(I)LWorkerRows$Request;"⟩
abbrev bC_isEnded : ByteArray := prog_1_method_23_code
def yC_isEnded : MethodName := ⟨RX3, "isEnded", "(LWorkerRows$Worker;)Z"⟩
abbrev bC_stateOf : ByteArray := prog_1_method_24_code
def yC_stateOf : MethodName := ⟨RX3, "stateOf", "(LWorkerRows$Worker;)I"⟩
abbrev bC_moveOn : ByteArray := prog_1_method_25_code
def yC_moveOn : MethodName := ⟨RX3, "moveOn", "(LWorkerRows$Request;)Z"⟩
abbrev bC_firstFree : ByteArray := prog_1_method_26_code
def yC_firstFree : MethodName := ⟨RX3, "firstFree", "(LWorkerRows$Tool;)LWorkerRows$Worker;"⟩
abbrev bC_startWorker : ByteArray := prog_1_method_27_code
def yC_startWorker : MethodName := ⟨RX3, "startWorker", "(LWorkerRows$Tool;)LWorkerRows$Worker;"⟩
abbrev bC_countStaying : ByteArray := prog_1_method_28_code
def yC_countStaying : MethodName := ⟨RX3, "countStaying", "(LWorkerRows$Tool;)I"⟩
abbrev bC_beginWith : ByteArray := prog_1_method_29_code
def yC_beginWith : MethodName := ⟨RX3, "beginWith", "(LWorkerRows$Request;LWorkerRows$Worker;)V"⟩
abbrev bC_leaveDone : ByteArray := prog_1_method_30_code
def yC_leaveDone : MethodName := ⟨RX3, "leaveDone", "(LWorkerRows$Request;LWorkerRows$Worker;J)V"⟩
abbrev bC_waitAgain : ByteArray := prog_1_method_31_code
def yC_waitAgain : MethodName := ⟨RX3, "waitAgain", "(LWorkerRows$Request;)V"⟩
abbrev bC_becomeCancelled : ByteArray := prog_1_method_32_code
def yC_becomeCancelled : MethodName := ⟨RX3, "becomeCancelled", "(LWorkerRows$Request;)V"⟩
abbrev bC_endAndRequeue : ByteArray := prog_1_method_33_code
def yC_endAndRequeue : MethodName := ⟨RX3, "endAndRequeue", "(LWorkerRows$Worker;I)V"⟩
abbrev bC_redoUntrusted : ByteArray := prog_1_method_34_code
def yC_redoUntrusted : MethodName := ⟨RX3, "redoUntrusted", "(LWorkerRows$Request;LWorkerRows$Worker;)I"⟩
abbrev bM_init : ByteArray := prog_6_method_1_code
def yM_init : MethodName := ⟨RX4, "<init>", "(III)V"⟩
abbrev bM_between : ByteArray := prog_6_method_2_code
def yM_between : MethodName := ⟨RX4, "between", "(III)I"⟩
abbrev bM_in : ByteArray := prog_6_method_3_code
def yM_in : MethodName := ⟨RX4, "in", "(II)Z"⟩
abbrev bM_tool : ByteArray := prog_6_method_4_code
def yM_tool : MethodName := ⟨RX4, "tool", "(JI)I"⟩
abbrev bM_quirk : ByteArray := prog_6_method_5_code
def yM_quirk : MethodName := ⟨RX4, "quirk", "(II)Z"⟩
abbrev bM_request : ByteArray := prog_6_method_6_code
def yM_request : MethodName := ⟨RX4, "request", "(IJI)I"⟩
abbrev bM_cancel : ByteArray := prog_6_method_7_code
def yM_cancel : MethodName := ⟨RX4, "cancel", "(I)I"⟩
abbrev bM_answers : ByteArray := prog_6_method_8_code
def yM_answers : MethodName := ⟨RX4, "answers", "(IJ)V"⟩
abbrev bM_lets : ByteArray := prog_6_method_9_code
def yM_lets : MethodName := ⟨RX4, "lets", "(I)Z"⟩
abbrev bM_waitsAgain : ByteArray := prog_6_method_10_code
def yM_waitsAgain : MethodName := ⟨RX4, "waitsAgain", "(I)V"⟩
abbrev bM_ends : ByteArray := prog_6_method_11_code
def yM_ends : MethodName := ⟨RX4, "ends", "(II)I"⟩
abbrev bM_freeOne : ByteArray := prog_6_method_12_code
def yM_freeOne : MethodName := ⟨RX4, "freeOne", "(I)I"⟩
abbrev bM_alive : ByteArray := prog_6_method_13_code
def yM_alive : MethodName := ⟨RX4, "alive", "(I)I"⟩
abbrev bM_newOne : ByteArray := prog_6_method_14_code
def yM_newOne : MethodName := ⟨RX4, "newOne", "(I)I"⟩
abbrev bM_goes : ByteArray := prog_6_method_15_code
def yM_goes : MethodName := ⟨RX4, "goes", "(I)Z"⟩
abbrev bM_step : ByteArray := prog_6_method_16_code
def yM_step : MethodName := ⟨RX4, "step", "()I"⟩
abbrev bM_isBusy : ByteArray := prog_6_method_17_code
def yM_isBusy : MethodName := ⟨RX4, "isBusy", "(I)Z"⟩
abbrev bM_finish : ByteArray := prog_6_method_18_code
def yM_finish : MethodName := ⟨RX4, "finish", "(I)I"⟩
abbrev bM_crash : ByteArray := prog_6_method_19_code
def yM_crash : MethodName := ⟨RX4, "crash", "(I)I"⟩
abbrev bM_edition : ByteArray := prog_6_method_20_code
def yM_edition : MethodName := ⟨RX4, "edition", "(IJ)I"⟩
abbrev bM_tick : ByteArray := prog_6_method_21_code
def yM_tick : MethodName := ⟨RX4, "tick", "(I)I"⟩
abbrev bM_isDoneBy : ByteArray := prog_6_method_22_code
def yM_isDoneBy : MethodName := ⟨RX4, "isDoneBy", "(II)Z"⟩
abbrev bM_sample : ByteArray := prog_6_method_23_code
def yM_sample : MethodName := ⟨RX4, "sample", "(I)I"⟩
abbrev bM_about : ByteArray := prog_6_method_24_code
def yM_about : MethodName := ⟨RX4, "about", "(II)I"⟩
abbrev bM_result : ByteArray := prog_6_method_25_code
def yM_result : MethodName := ⟨RX4, "result", "(I)J"⟩
abbrev bM_worker : ByteArray := prog_6_method_26_code
def yM_worker : MethodName := ⟨RX4, "worker", "(II)I"⟩
abbrev bM_bars : ByteArray := prog_6_method_27_code
def yM_bars : MethodName := ⟨RX4, "bars", "(I)I"⟩
abbrev bM_oneShot : ByteArray := prog_6_method_28_code
def yM_oneShot : MethodName := ⟨RX4, "oneShot", "(JJ)J"⟩
abbrev bR_init : ByteArray := prog_2_method_1_code
def yR_init : MethodName := ⟨RX0, "<init>", "(ILWorkerRows$Tool;JI)V"⟩
abbrev bT_init : ByteArray := prog_3_method_1_code
def yT_init : MethodName := ⟨RX1, "<init>", "(IJI)V"⟩
abbrev bW_init : ByteArray := prog_4_method_1_code
def yW_init : MethodName := ⟨RX2, "<init>", "(ILWorkerRows$Tool;)V"⟩
abbrev bL_cell : ByteArray := method_2_code
def yL_cell : MethodName := ⟨RL, "cell", "([II)I"⟩
abbrev bL_law : ByteArray := code
end
section
/-! POOL WORLDS: a world is a list LL of addresses and f, what lies at each; rows by membership -/
section PW
theorem pw_at {f : Nat → va_E} {LL : List Nat} {a : Nat} {x : va_E} (ha : a ∈ LL) (hf : f a = x) : ∃ k : Nat, (va_pl LL f)[k]? = some (a, x) := by
  obtain ⟨k, hk⟩ := va_pl_get (X := []) (f := f) ha
  exact ⟨k, by rw [← hf]; exact hk⟩
theorem pw_set {A : Nat → Prop} {LL : List Nat} {f : Nat → va_E} {a k : Nat} {x y : va_E} (hD : va_D A (va_pl LL f)) (ha : a ∈ LL) (hf : f a = x) (hk : (va_pl LL f)[k]? = some (a, x)) : (va_pl LL f).set k (a, y) = va_pl LL (va_up f a y) := by
  subst hf
  exact va_pl_set (X := []) hD ha hk
variable {p : Program} {l : Launch} {e : Env} {R : Room} {s : State} {m : MethodId} {args : Array Value} {below : List Frame} {meth : Method} {c : Code} {H : Heap} {locs : List Loc} {cells slots : Nat} {Q : State → Prop}
variable {cc : ByteArray} {pc : Nat} {ls : Array Slot} {rest : List Value} {D : va_G} {cl : List vw_C} {A : Nat → Prop} {a : Nat} {tys : List (ClassId × FieldType)} {H0 : Heap} {LL : List Nat} {f : Nat → va_E}
theorem pw_get (hexec : p.tables.exec = Jvm.exec) (hb : c.code = cc) {own C : String} {T : u_T} {N ci index : Nat} {Ts : List Cond} (hts : ∀ w ∈ Ts, w.before args s = true) (hin : ∀ w ∈ u_ws C T N, w ∈ Ts) (hown : s.vm.findClass own = some m.cls) (hK : va_K D cl tys s) (hP : va_P D cl (va_pl LL f) H) {fs : List Value} (ha : a ∈ LL) (hf : f a = .inr (ci, fs)) (hc : cl[ci]? = some (C, T, N)) (k : Nat) (hk : k < N) (hlink : (Cond.fieldLink own index (T k).1 (T k).2.1 (T k).2.2.1).before args s = true) {v : Value} (hv : fs[k]? = some v) (hdg : decode cc pc = .ok (.getfield index, 3))
    (kk : W p l e R s m args below meth c H locs cells slots Q (F0 m (pc + 3) ls (v :: rest))) : W p l e R s m args below meth c H locs cells slots Q (F0 m pc ls (.ref a :: rest)) := by
  obtain ⟨j, hj⟩ := pw_at ha hf
  exact va_get hexec hb hts hin hown hK hP j hj hc k hk hlink (fun _ h => h) hv hdg kk
theorem pw_put (hexec : p.tables.exec = Jvm.exec) (hb : c.code = cc) {own C : String} {T : u_T} {N ci index : Nat} {Ts : List Cond} (hts : ∀ w ∈ Ts, w.before args s = true) (hin : ∀ w ∈ u_ws C T N, w ∈ Ts) (ty0 : Nat → FieldType) (hty : ∀ k, k < N → parseFieldDescriptor (T k).2.2.1 = some (ty0 k)) (hnm : ∀ a, a < N → ∀ b, b < N → a ≠ b → (T a).2.1 ≠ (T b).2.1) (hown : s.vm.findClass own = some m.cls) (hK : va_K D cl tys s) (hP : va_P D cl (va_pl LL f) H) (hD : va_D A (va_pl LL f)) (hS0 : va_S A H0 H locs) {fs : List Value} (ha : a ∈ LL) (hf : f a = .inr (ci, fs)) (hc : cl[ci]? = some (C, T, N)) (k : Nat) (hk : k < N) (hlink : (Cond.fieldLink own index (T k).1 (T k).2.1 (T k).2.2.1).before args s = true) (hfin : (T k).2.2.2 = false) {v : Value} (hn : narrow (ty0 k) v = v) (hfit : fits (ty0 k) v = true) (hl : k < fs.length)
    (hdg : decode cc pc = .ok (.putfield index, 3)) (kk : ∀ (H1 : Heap) (locs1 : List Loc), va_P D cl (va_pl LL (va_up f a (.inr (ci, fs.set k v)))) H1 → va_D A (va_pl LL (va_up f a (.inr (ci, fs.set k v)))) → va_S A H0 H1 locs1 → W p l e R s m args below meth c H1 locs1 cells slots Q (F0 m (pc + 3) ls rest)) : W p l e R s m args below meth c H locs cells slots Q (F0 m pc ls (v :: .ref a :: rest)) := by
  obtain ⟨j, hj⟩ := pw_at ha hf
  refine va_put hexec hb hts hin ty0 hty hnm hown hK hP hD hS0 j hj hc k hk hlink (fun _ h => h) hfin (hty k hk) hn hfit hl hdg (fun H1 locs1 h1 h2 h3 => ?_)
  rw [pw_set hD ha hf hj] at h1 h2
  exact kk H1 locs1 h1 h2 h3
theorem pw_putF (hexec : p.tables.exec = Jvm.exec) (hb : c.code = cc) {own C : String} {T : u_T} {N ci index : Nat} {Ts : List Cond} (hts : ∀ w ∈ Ts, w.before args s = true) (hin : ∀ w ∈ u_ws C T N, w ∈ Ts) (ty0 : Nat → FieldType) (hty : ∀ k, k < N → parseFieldDescriptor (T k).2.2.1 = some (ty0 k)) (hnm : ∀ a, a < N → ∀ b, b < N → a ≠ b → (T a).2.1 ≠ (T b).2.1) (hown : s.vm.findClass own = some m.cls) (hK : va_K D cl tys s) (hP : va_P D cl (va_pl LL f) H) (hD : va_D A (va_pl LL f)) (hS0 : va_S A H0 H locs) {fs : List Value} (ha : a ∈ LL) (hf : f a = .inr (ci, fs)) (hc : cl[ci]? = some (C, T, N)) (k : Nat) (hk : k < N) (hlink : (Cond.fieldLink own index (T k).1 (T k).2.1 (T k).2.2.1).before args s = true) (hfin : (T k).2.2.2 = true) (hin2 : meth.name = "<init>") (hdecl : (T k).1 = own) {v : Value} (hn : narrow (ty0 k) v = v) (hfit : fits (ty0 k) v = true) (hl : k < fs.length)
    (hdg : decode cc pc = .ok (.putfield index, 3)) (kk : ∀ (H1 : Heap) (locs1 : List Loc), va_P D cl (va_pl LL (va_up f a (.inr (ci, fs.set k v)))) H1 → va_D A (va_pl LL (va_up f a (.inr (ci, fs.set k v)))) → va_S A H0 H1 locs1 → W p l e R s m args below meth c H1 locs1 cells slots Q (F0 m (pc + 3) ls rest)) : W p l e R s m args below meth c H locs cells slots Q (F0 m pc ls (v :: .ref a :: rest)) := by
  obtain ⟨j, hj⟩ := pw_at ha hf
  refine va_putF hexec hb hts hin ty0 hty hnm hown hK hP hD hS0 j hj hc k hk hlink (fun _ h => h) hfin hin2 hdecl (hty k hk) hn hfit hl hdg (fun H1 locs1 h1 h2 h3 => ?_)
  rw [pw_set hD ha hf hj] at h1 h2
  exact kk H1 locs1 h1 h2 h3
/-- a reference out of an array of references -/
theorem pw_aldq (hexec : p.tables.exec = Jvm.exec) (hb : c.code = cc) (hK : va_K D cl tys s) (hP : va_P D cl (va_pl LL f) H) (t0 : Nat) {cA : ClassId} {C : String} {n : Nat} {g : Nat → Option Nat} (ha : a ∈ LL) (hf : f a = .inl (cA, n, .inr (.inr (.inr (.inr g))))) (ht : tys[t0]? = some (cA, .object C)) {i : Int32} (hin : vp_in i n) (hdg : decode cc pc = .ok (.aaload, 1))
    (kk : W p l e R s m args below meth c H locs cells slots Q (F0 m (pc + 1) ls (va_rf (g i.toNatClampNeg) :: rest))) : W p l e R s m args below meth c H locs cells slots Q (F0 m pc ls (.int i :: .ref a :: rest)) := by
  obtain ⟨j, hj⟩ := pw_at ha hf
  exact va_aldq hexec hb hK hP j t0 hj ht hin hdg kk
theorem pw_astq (hexec : p.tables.exec = Jvm.exec) (hb : c.code = cc) (hK : va_K D cl tys s) (hP : va_P D cl (va_pl LL f) H) (hD : va_D A (va_pl LL f)) (hS : va_S A H0 H locs) (t0 ci : Nat) {cA : ClassId} {r : vw_C} {n v : Nat} {vs : List Value} {g : Nat → Option Nat} (ha : a ∈ LL) (hf : f a = .inl (cA, n, .inr (.inr (.inr (.inr g))))) (ht : tys[t0]? = some (cA, .object r.1)) (hva : v ∈ LL) (hv : f v = .inr (ci, vs)) (hc : cl[ci]? = some r) {i : Int32} (hin : vp_in i n) (hdg : decode cc pc = .ok (.aastore, 1))
    (kk : ∀ (H1 : Heap) (locs1 : List Loc), va_P D cl (va_pl LL (va_up f a (.inl (cA, n, .inr (.inr (.inr (.inr (va_up g i.toNatClampNeg (some v))))))))) H1 → va_D A (va_pl LL (va_up f a (.inl (cA, n, .inr (.inr (.inr (.inr (va_up g i.toNatClampNeg (some v))))))))) → va_S A H0 H1 locs1 → W p l e R s m args below meth c H1 locs1 cells slots Q (F0 m (pc + 1) ls rest)) : W p l e R s m args below meth c H locs cells slots Q (F0 m pc ls (.ref v :: .int i :: .ref a :: rest)) := by
  obtain ⟨j, hj⟩ := pw_at ha hf
  obtain ⟨k, hk⟩ := pw_at hva hv
  refine va_astq hexec hb hK hP hD hS j t0 k ci hj ht hk hc hin hdg (fun H1 locs1 h1 h2 h3 => ?_)
  rw [pw_set hD ha hf hj] at h1 h2
  exact kk H1 locs1 h1 h2 h3
theorem pw_alen (hexec : p.tables.exec = Jvm.exec) (hb : c.code = cc) (hK : va_K D cl tys s) (hP : va_P D cl (va_pl LL f) H) (t0 : Nat) {cA : ClassId} {x : vp_A} (ha : a ∈ LL) (hf : f a = .inl (cA, x)) {ty : FieldType} (ht : tys[t0]? = some (cA, ty)) {v : Int32} (hv : Int32.ofNat x.1 = v) (hdg : decode cc pc = .ok (.arraylength, 1))
    (kk : W p l e R s m args below meth c H locs cells slots Q (F0 m (pc + 1) ls (.int v :: rest))) : W p l e R s m args below meth c H locs cells slots Q (F0 m pc ls (.ref a :: rest)) := by
  obtain ⟨j, hj⟩ := pw_at ha hf
  exact va_alen hexec hb hK hP j t0 hj ht hv hdg kk
theorem pw_iald (hexec : p.tables.exec = Jvm.exec) (hb : c.code = cc) (hK : va_K D cl tys s) (hP : va_P D cl (va_pl LL f) H) (t0 : Nat) {cA : ClassId} {n : Nat} {g : Nat → Int32} (ha : a ∈ LL) (hf : f a = .inl (cA, n, .inl g)) (ht : tys[t0]? = some (cA, .int)) {i : Int32} (hin : vp_in i n) (hdg : decode cc pc = .ok (.iaload, 1))
    (kk : W p l e R s m args below meth c H locs cells slots Q (F0 m (pc + 1) ls (.int (g i.toNatClampNeg) :: rest))) : W p l e R s m args below meth c H locs cells slots Q (F0 m pc ls (.int i :: .ref a :: rest)) := by
  obtain ⟨j, hj⟩ := pw_at ha hf
  exact va_iald hexec hb hK hP j t0 hj ht hin hdg kk
theorem pw_zald (hexec : p.tables.exec = Jvm.exec) (hb : c.code = cc) (hK : va_K D cl tys s) (hP : va_P D cl (va_pl LL f) H) (t0 : Nat) {cA : ClassId} {n : Nat} {g : Nat → Int32} (ha : a ∈ LL) (hf : f a = .inl (cA, n, .inl g)) (ht : tys[t0]? = some (cA, .boolean)) {i : Int32} (hin : vp_in i n) (hdg : decode cc pc = .ok (.baload, 1))
    (kk : W p l e R s m args below meth c H locs cells slots Q (F0 m (pc + 1) ls (.int (g i.toNatClampNeg) :: rest))) : W p l e R s m args below meth c H locs cells slots Q (F0 m pc ls (.int i :: .ref a :: rest)) := by
  obtain ⟨j, hj⟩ := pw_at ha hf
  exact va_zald hexec hb hK hP j t0 hj ht hin hdg kk
theorem pw_lald (hexec : p.tables.exec = Jvm.exec) (hb : c.code = cc) (hK : va_K D cl tys s) (hP : va_P D cl (va_pl LL f) H) (t0 : Nat) {cA : ClassId} {n : Nat} {g : Nat → Int64} (ha : a ∈ LL) (hf : f a = .inl (cA, n, .inr (.inl g))) (ht : tys[t0]? = some (cA, .long)) {i : Int32} (hin : vp_in i n) (hdg : decode cc pc = .ok (.laload, 1))
    (kk : W p l e R s m args below meth c H locs cells slots Q (F0 m (pc + 1) ls (.long (g i.toNatClampNeg) :: rest))) : W p l e R s m args below meth c H locs cells slots Q (F0 m pc ls (.int i :: .ref a :: rest)) := by
  obtain ⟨j, hj⟩ := pw_at ha hf
  exact va_lald hexec hb hK hP j t0 hj ht hin hdg kk
theorem pw_iast (hexec : p.tables.exec = Jvm.exec) (hb : c.code = cc) (hK : va_K D cl tys s) (hP : va_P D cl (va_pl LL f) H) (hD : va_D A (va_pl LL f)) (hS : va_S A H0 H locs) (t0 : Nat) {cA : ClassId} {n : Nat} {g : Nat → Int32} (ha : a ∈ LL) (hf : f a = .inl (cA, n, .inl g)) (ht : tys[t0]? = some (cA, .int)) {i x : Int32} (hin : vp_in i n) (hdg : decode cc pc = .ok (.iastore, 1))
    (kk : ∀ (H1 : Heap) (locs1 : List Loc), va_P D cl (va_pl LL (va_up f a (.inl (cA, n, .inl (upd g i.toNatClampNeg x))))) H1 → va_D A (va_pl LL (va_up f a (.inl (cA, n, .inl (upd g i.toNatClampNeg x))))) → va_S A H0 H1 locs1 → W p l e R s m args below meth c H1 locs1 cells slots Q (F0 m (pc + 1) ls rest)) : W p l e R s m args below meth c H locs cells slots Q (F0 m pc ls (.int x :: .int i :: .ref a :: rest)) := by
  obtain ⟨j, hj⟩ := pw_at ha hf
  refine va_iast hexec hb hK hP hD hS j t0 hj ht hin hdg (fun H1 locs1 h1 h2 h3 => ?_)
  rw [pw_set hD ha hf hj] at h1 h2
  exact kk H1 locs1 h1 h2 h3
theorem pw_zast (hexec : p.tables.exec = Jvm.exec) (hb : c.code = cc) (hK : va_K D cl tys s) (hP : va_P D cl (va_pl LL f) H) (hD : va_D A (va_pl LL f)) (hS : va_S A H0 H locs) (t0 : Nat) {cA : ClassId} {n : Nat} {g : Nat → Int32} (ha : a ∈ LL) (hf : f a = .inl (cA, n, .inl g)) (ht : tys[t0]? = some (cA, .boolean)) {i x : Int32} (hin : vp_in i n) (hdg : decode cc pc = .ok (.bastore, 1))
    (kk : ∀ (H1 : Heap) (locs1 : List Loc), va_P D cl (va_pl LL (va_up f a (.inl (cA, n, .inl (upd g i.toNatClampNeg (vp_nar .boolean x)))))) H1 → va_D A (va_pl LL (va_up f a (.inl (cA, n, .inl (upd g i.toNatClampNeg (vp_nar .boolean x)))))) → va_S A H0 H1 locs1 → W p l e R s m args below meth c H1 locs1 cells slots Q (F0 m (pc + 1) ls rest)) : W p l e R s m args below meth c H locs cells slots Q (F0 m pc ls (.int x :: .int i :: .ref a :: rest)) := by
  obtain ⟨j, hj⟩ := pw_at ha hf
  refine va_zast hexec hb hK hP hD hS j t0 hj ht hin hdg (fun H1 locs1 h1 h2 h3 => ?_)
  rw [pw_set hD ha hf hj] at h1 h2
  exact kk H1 locs1 h1 h2 h3
theorem pw_last (hexec : p.tables.exec = Jvm.exec) (hb : c.code = cc) (hK : va_K D cl tys s) (hP : va_P D cl (va_pl LL f) H) (hD : va_D A (va_pl LL f)) (hS : va_S A H0 H locs) (t0 : Nat) {cA : ClassId} {n : Nat} {g : Nat → Int64} (ha : a ∈ LL) (hf : f a = .inl (cA, n, .inr (.inl g))) (ht : tys[t0]? = some (cA, .long)) {i : Int32} {x : Int64} (hin : vp_in i n) (hdg : decode cc pc = .ok (.lastore, 1))
    (kk : ∀ (H1 : Heap) (locs1 : List Loc), va_P D cl (va_pl LL (va_up f a (.inl (cA, n, .inr (.inl (vp_updL g i.toNatClampNeg x)))))) H1 → va_D A (va_pl LL (va_up f a (.inl (cA, n, .inr (.inl (vp_updL g i.toNatClampNeg x)))))) → va_S A H0 H1 locs1 → W p l e R s m args below meth c H1 locs1 cells slots Q (F0 m (pc + 1) ls rest)) : W p l e R s m args below meth c H locs cells slots Q (F0 m pc ls (.long x :: .int i :: .ref a :: rest)) := by
  obtain ⟨j, hj⟩ := pw_at ha hf
  refine va_last hexec hb hK hP hD hS j t0 hj ht hin hdg (fun H1 locs1 h1 h2 h3 => ?_)
  rw [pw_set hD ha hf hj] at h1 h2
  exact kk H1 locs1 h1 h2 h3
/-- a new cell at the end of a pool -/
theorem pw_push {x : va_E} {q : Nat} (hD : va_D A (va_pl LL f ++ [(q, x)])) : q ∉ LL := va_pl_fresh2 (X := []) hD
theorem pw_new (hexec : p.tables.exec = Jvm.exec) (hb : c.code = cc) {own C : String} {T : u_T} {N ci index : Nat} {Ts : List Cond} (hts : ∀ w ∈ Ts, w.before args s = true) (hin : ∀ w ∈ u_ws C T N, w ∈ Ts) (ty : Nat → FieldType) (hty : ∀ k, k < N → parseFieldDescriptor (T k).2.2.1 = some (ty k)) (hown : s.vm.findClass own = some m.cls) (hcl : (Cond.classLink own index C).before args s = true) (hinst : (Cond.instantiable C N).before args s = true) (hini : (Cond.initialized C).before args s = true)
    (hK : va_K D cl tys s) (hP : va_P D cl (va_pl LL f) H) (hD : va_D A (va_pl LL f)) (hS : va_S A H0 H locs) (hA : ∀ q, H0.size ≤ q → A q) (hc : cl[ci]? = some (C, T, N)) {fs : List Value} (hfs : ∀ j, j < N → defaultValue (ty j) = vp_V fs j) (hcells : cells + 1 ≤ R.cells) (hslots : slots + N ≤ R.slots) (hdg : decode cc pc = .ok (.new index, 3))
    (kk : ∀ (q : Nat) (H1 : Heap), q ∉ LL → va_P D cl (va_pl (LL ++ [q]) (va_up f q (.inr (ci, fs)))) H1 → va_D A (va_pl (LL ++ [q]) (va_up f q (.inr (ci, fs)))) → va_S A H0 H1 locs →
      W p l e R s m args below meth c H1 locs (cells + 1) (slots + N) Q (F0 m (pc + 3) ls (.ref q :: rest))) : W p l e R s m args below meth c H locs cells slots Q (F0 m pc ls rest) := by
  refine va_new hexec hb hts hin ty hty hown hcl hinst hini hK hP hD hS hA hc hfs hcells hslots hdg (fun q H1 h1 h2 h3 => ?_)
  have hq := pw_push h2
  rw [va_pl_push hq] at h1 h2
  exact kk q H1 hq h1 h2 h3
theorem pw_newq (hexec : p.tables.exec = Jvm.exec) (hb : c.code = cc) {own C : String} {index : Nat} (hown : s.vm.findClass own = some m.cls) (hclink : (Cond.classLink own index C).before args s = true) (hover : va_AO C s) (hK : va_K D cl tys s) (hP : va_P D cl (va_pl LL f) H) (hD : va_D A (va_pl LL f)) (hS : va_S A H0 H locs) (hA : ∀ q, H0.size ≤ q → A q)
    {n : Int32} {N' : Nat} (hn : ¬ n < 0) (hN : n.toNatClampNeg = N') (hbytes : N' * 4 ≤ 536870912) (hcells : cells + 1 ≤ R.cells) (hslots : slots + N' ≤ R.slots) (hdg : decode cc pc = .ok (.anewarray index, 3))
    (kk : ∀ (q : Nat) (cA : ClassId) (H1 : Heap), q ∉ LL → va_K D cl (tys ++ [(cA, .object C)]) s → va_P D cl (va_pl (LL ++ [q]) (va_up f q (.inl (cA, N', .inr (.inr (.inr (.inr (fun _ => none)))))))) H1 → va_D A (va_pl (LL ++ [q]) (va_up f q (.inl (cA, N', .inr (.inr (.inr (.inr (fun _ => none)))))))) → va_S A H0 H1 locs →
      W p l e R s m args below meth c H1 locs (cells + 1) (slots + N') Q (F0 m (pc + 3) ls (.ref q :: rest))) : W p l e R s m args below meth c H locs cells slots Q (F0 m pc ls (.int n :: rest)) := by
  refine va_newq hexec hb hown hclink hover hK hP hD hS hA hn hN hbytes hcells hslots hdg (fun q cA H1 h0 h1 h2 h3 => ?_)
  have hq := pw_push h2
  rw [va_pl_push hq] at h1 h2
  exact kk q cA H1 hq h0 h1 h2 h3
theorem pw_newa (hexec : p.tables.exec = Jvm.exec) (hb : c.code = cc) {atype : ArrayType} (harr : (Cond.arrayClass (newarray.typeOf atype)).before args s = true) {ty : FieldType} (hty : newarray.typeOf atype = ty) (hK : va_K D cl tys s) (hP : va_P D cl (va_pl LL f) H) (hD : va_D A (va_pl LL f)) (hS : va_S A H0 H locs) (hA : ∀ q, H0.size ≤ q → A q)
    {n : Int32} {N' : Nat} {a0 : vp_A} (ha : ∀ cA : ClassId, vp_cell cA a0 = arrV cA N' (fun _ => defaultValue ty)) (hn : ¬ n < 0) (hN : n.toNatClampNeg = N') (hbytes : N' * componentBytes ty ≤ 536870912) (hcells : cells + 1 ≤ R.cells) (hslots : slots + N' ≤ R.slots) (hdg : decode cc pc = .ok (.newarray atype, 2))
    (kk : ∀ (q : Nat) (cA : ClassId) (H1 : Heap), q ∉ LL → va_K D cl (tys ++ [(cA, ty)]) s → va_P D cl (va_pl (LL ++ [q]) (va_up f q (.inl (cA, a0)))) H1 → va_D A (va_pl (LL ++ [q]) (va_up f q (.inl (cA, a0)))) → va_S A H0 H1 locs →
      W p l e R s m args below meth c H1 locs (cells + 1) (slots + N') Q (F0 m (pc + 2) ls (.ref q :: rest))) : W p l e R s m args below meth c H locs cells slots Q (F0 m pc ls (.int n :: rest)) := by
  refine va_newa hexec hb harr hty hK hP hD hS hA ha hn hN hbytes hcells hslots hdg (fun q cA H1 h0 h1 h2 h3 => ?_)
  have hq := pw_push h2
  rw [va_pl_push hq] at h1 h2
  exact kk q cA H1 hq h0 h1 h2 h3
/-- what a method may write: its pool's cells, and those from sz on -/
theorem pw_A {LL : List Nat} {f : Nat → va_E} {sz q : Nat} : va_A (va_pl LL f) sz q ↔ (q ∈ LL ∨ sz ≤ q) := by
  constructor
  · rintro (⟨k, x, h⟩ | h)
    · have := List.mem_of_getElem? h
      obtain ⟨b, hb, e⟩ := List.mem_map.mp this
      cases e
      exact Or.inl hb
    · exact Or.inr h
  · rintro (h | h)
    · obtain ⟨k, hk⟩ := pw_at (f := f) h rfl
      exact Or.inl ⟨k, _, hk⟩
    · exact Or.inr h
theorem pw_Aeq {LL : List Nat} {f g : Nat → va_E} {sz : Nat} : va_A (va_pl LL f) sz = va_A (va_pl LL g) sz := by
  funext q
  exact propext (pw_A.trans pw_A.symm)
theorem pw_recv {s : State} {ci : Nat} {r : vw_C} {fs : List Value} (hK : va_K D cl tys s) (hP : va_P D cl (va_pl LL f) H) (ha : a ∈ LL) (hf : f a = .inr (ci, fs)) (hc : cl[ci]? = some r) : ∃ cell : Cell, H[a]? = some cell ∧ cell.vm.isStatics = false ∧ s.vm.findClass r.1 = some cell.cls := by
  obtain ⟨j, hj⟩ := pw_at ha hf
  exact va_recv hK hP hc hj
end PW
end
section
theorem zz1 : (lw_tbl.all (fun w => goodWord w || match w with | .arrayOver _ => true | _ => false)) = true := by decide +kernel
theorem zz2 : (lw_tbl.all (fun w => goodWord w || match w with | .arrayOver _ => true | .soleField _ _ => true | _ => false)) = true := by decide +kernel
theorem zz3 : (lw_tbl.all (fun w => goodWord w || match w with | .arrayOver _ => true | .soleField _ _ => true | .superclass _ _ => true | .privateMethod _ => true | _ => false)) = true := by decide +kernel
theorem zz4 : (lw_tbl.all (fun w => goodWord w || match w with | .soleField _ _ => true | .superclass _ _ => true | .privateMethod _ => true | _ => false)) = true := by decide +kernel
end
