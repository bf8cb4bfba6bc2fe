section
-- ===== PART A: goes FIRST, ahead of the names: the tables' words, and 'selects' of the private methods out of them =====
/-- a private method of a class that the tables say can be made, by its rows of tables_1 -/
def lw_okq (q : MethodName × Nat) : Prop := (q.1.cls ≠ "java/lang/invoke/MethodHandle" ∧ q.1.cls ≠ "java/lang/invoke/VarHandle") ∧ Cond.instantiable q.1.cls q.2 ∈ tables_1 ∧ Cond.privateMethod q.1 ∈ tables_1 ∧ Cond.instanceMethod q.1 ∈ tables_1
theorem lw_p0 : lw_okq (⟨"WorkerRows", "toolAt", "(I)LWorkerRows$Tool;"⟩, 10) := ⟨⟨by decide +kernel, by decide +kernel⟩, List.mem_of_getElem? (i := 8) (by decide +kernel), List.mem_of_getElem? (i := 93) (by decide +kernel), List.mem_of_getElem? (i := 94) (by decide +kernel)⟩
theorem lw_p1 : lw_okq (⟨"WorkerRows", "requestAt", "(I)LWorkerRows$Request;"⟩, 10) := ⟨⟨by decide +kernel, by decide +kernel⟩, List.mem_of_getElem? (i := 8) (by decide +kernel), List.mem_of_getElem? (i := 164) (by decide +kernel), List.mem_of_getElem? (i := 165) (by decide +kernel)⟩
theorem lw_p2 : lw_okq (⟨"WorkerRows", "moveOn", "(LWorkerRows$Request;)Z"⟩, 10) := ⟨⟨by decide +kernel, by decide +kernel⟩, List.mem_of_getElem? (i := 8) (by decide +kernel), List.mem_of_getElem? (i := 172) (by decide +kernel), List.mem_of_getElem? (i := 173) (by decide +kernel)⟩
theorem lw_p3 : lw_okq (⟨"WorkerRows", "firstFree", "(LWorkerRows$Tool;)LWorkerRows$Worker;"⟩, 10) := ⟨⟨by decide +kernel, by decide +kernel⟩, List.mem_of_getElem? (i := 8) (by decide +kernel), List.mem_of_getElem? (i := 183) (by decide +kernel), List.mem_of_getElem? (i := 184) (by decide +kernel)⟩
theorem lw_p4 : lw_okq (⟨"WorkerRows", "startWorker", "(LWorkerRows$Tool;)LWorkerRows$Worker;"⟩, 10) := ⟨⟨by decide +kernel, by decide +kernel⟩, List.mem_of_getElem? (i := 8) (by decide +kernel), List.mem_of_getElem? (i := 190) (by decide +kernel), List.mem_of_getElem? (i := 191) (by decide +kernel)⟩
theorem lw_p5 : lw_okq (⟨"WorkerRows", "countStaying", "(LWorkerRows$Tool;)I"⟩, 10) := ⟨⟨by decide +kernel, by decide +kernel⟩, List.mem_of_getElem? (i := 8) (by decide +kernel), List.mem_of_getElem? (i := 194) (by decide +kernel), List.mem_of_getElem? (i := 195) (by decide +kernel)⟩
theorem lw_p6 : lw_okq (⟨"WorkerRows", "workerAt", "(I)LWorkerRows$Worker;"⟩, 10) := ⟨⟨by decide +kernel, by decide +kernel⟩, List.mem_of_getElem? (i := 8) (by decide +kernel), List.mem_of_getElem? (i := 241) (by decide +kernel), List.mem_of_getElem? (i := 242) (by decide +kernel)⟩
theorem lw_p7 : lw_okq (⟨"WorkerRows", "redoUntrusted", "(LWorkerRows$Request;LWorkerRows$Worker;)I"⟩, 10) := ⟨⟨by decide +kernel, by decide +kernel⟩, List.mem_of_getElem? (i := 8) (by decide +kernel), List.mem_of_getElem? (i := 261) (by decide +kernel), List.mem_of_getElem? (i := 262) (by decide +kernel)⟩
theorem lw_p8 : lw_okq (⟨"WorkerRowsModel", "goes", "(I)Z"⟩, 29) := ⟨⟨by decide +kernel, by decide +kernel⟩, List.mem_of_getElem? (i := 288) (by decide +kernel), List.mem_of_getElem? (i := 412) (by decide +kernel), List.mem_of_getElem? (i := 413) (by decide +kernel)⟩
theorem lw_p9 : lw_okq (⟨"WorkerRowsModel", "answers", "(IJ)V"⟩, 29) := ⟨⟨by decide +kernel, by decide +kernel⟩, List.mem_of_getElem? (i := 288) (by decide +kernel), List.mem_of_getElem? (i := 421) (by decide +kernel), List.mem_of_getElem? (i := 422) (by decide +kernel)⟩
theorem lw_p10 : lw_okq (⟨"WorkerRowsModel", "freeOne", "(I)I"⟩, 29) := ⟨⟨by decide +kernel, by decide +kernel⟩, List.mem_of_getElem? (i := 288) (by decide +kernel), List.mem_of_getElem? (i := 425) (by decide +kernel), List.mem_of_getElem? (i := 426) (by decide +kernel)⟩
theorem lw_p11 : lw_okq (⟨"WorkerRowsModel", "alive", "(I)I"⟩, 29) := ⟨⟨by decide +kernel, by decide +kernel⟩, List.mem_of_getElem? (i := 288) (by decide +kernel), List.mem_of_getElem? (i := 429) (by decide +kernel), List.mem_of_getElem? (i := 430) (by decide +kernel)⟩
theorem lw_p12 : lw_okq (⟨"WorkerRowsModel", "newOne", "(I)I"⟩, 29) := ⟨⟨by decide +kernel, by decide +kernel⟩, List.mem_of_getElem? (i := 288) (by decide +kernel), List.mem_of_getElem? (i := 433) (by decide +kernel), List.mem_of_getElem? (i := 434) (by decide +kernel)⟩
theorem lw_p13 : lw_okq (⟨"WorkerRowsModel", "isBusy", "(I)Z"⟩, 29) := ⟨⟨by decide +kernel, by decide +kernel⟩, List.mem_of_getElem? (i := 288) (by decide +kernel), List.mem_of_getElem? (i := 441) (by decide +kernel), List.mem_of_getElem? (i := 442) (by decide +kernel)⟩
theorem lw_p14 : lw_okq (⟨"WorkerRowsModel", "lets", "(I)Z"⟩, 29) := ⟨⟨by decide +kernel, by decide +kernel⟩, List.mem_of_getElem? (i := 288) (by decide +kernel), List.mem_of_getElem? (i := 445) (by decide +kernel), List.mem_of_getElem? (i := 446) (by decide +kernel)⟩
theorem lw_p15 : lw_okq (⟨"WorkerRowsModel", "ends", "(II)I"⟩, 29) := ⟨⟨by decide +kernel, by decide +kernel⟩, List.mem_of_getElem? (i := 288) (by decide +kernel), List.mem_of_getElem? (i := 449) (by decide +kernel), List.mem_of_getElem? (i := 450) (by decide +kernel)⟩
def lw_privs_1 : List (MethodName × Nat) := [(⟨"WorkerRows", "toolAt", "(I)LWorkerRows$Tool;"⟩, 10), (⟨"WorkerRows", "requestAt", "(I)LWorkerRows$Request;"⟩, 10), (⟨"WorkerRows", "moveOn", "(LWorkerRows$Request;)Z"⟩, 10), (⟨"WorkerRows", "firstFree", "(LWorkerRows$Tool;)LWorkerRows$Worker;"⟩, 10), (⟨"WorkerRows", "startWorker", "(LWorkerRows$Tool;)LWorkerRows$Worker;"⟩, 10), (⟨"WorkerRows", "countStaying", "(LWorkerRows$Tool;)I"⟩, 10), (⟨"WorkerRows", "workerAt", "(I)LWorkerRows$Worker;"⟩, 10), (⟨"WorkerRows", "redoUntrusted", "(LWorkerRows$Request;LWorkerRows$Worker;)I"⟩, 10), (⟨"WorkerRowsModel", "goes", "(I)Z"⟩, 29), (⟨"WorkerRowsModel", "answers", "(IJ)V"⟩, 29), (⟨"WorkerRowsModel", "freeOne", "(I)I"⟩, 29), (⟨"WorkerRowsModel", "alive", "(I)I"⟩, 29), (⟨"WorkerRowsModel", "newOne", "(I)I"⟩, 29), (⟨"WorkerRowsModel", "isBusy", "(I)Z"⟩, 29), (⟨"WorkerRowsModel", "lets", "(I)Z"⟩, 29), (⟨"WorkerRowsModel", "ends", "(II)I"⟩, 29)]
theorem lw_r1 : ∀ q ∈ lw_privs_1, lw_okq q := List.forall_mem_cons.mpr ⟨lw_p0, List.forall_mem_cons.mpr ⟨lw_p1, List.forall_mem_cons.mpr ⟨lw_p2, List.forall_mem_cons.mpr ⟨lw_p3, List.forall_mem_cons.mpr ⟨lw_p4, List.forall_mem_cons.mpr ⟨lw_p5, List.forall_mem_cons.mpr ⟨lw_p6, List.forall_mem_cons.mpr ⟨lw_p7, List.forall_mem_cons.mpr ⟨lw_p8, List.forall_mem_cons.mpr ⟨lw_p9, List.forall_mem_cons.mpr ⟨lw_p10, List.forall_mem_cons.mpr ⟨lw_p11, List.forall_mem_cons.mpr ⟨lw_p12, List.forall_mem_cons.mpr ⟨lw_p13, List.forall_mem_cons.mpr ⟨lw_p14, List.forall_mem_cons.mpr ⟨lw_p15, fun _ h => absurd h List.not_mem_nil⟩⟩⟩⟩⟩⟩⟩⟩⟩⟩⟩⟩⟩⟩⟩⟩
theorem lw_p16 : lw_okq (⟨"WorkerRowsModel", "waitsAgain", "(I)V"⟩, 29) := ⟨⟨by decide +kernel, by decide +kernel⟩, List.mem_of_getElem? (i := 288) (by decide +kernel), List.mem_of_getElem? (i := 461) (by decide +kernel), List.mem_of_getElem? (i := 462) (by decide +kernel)⟩
theorem lw_p17 : lw_okq (⟨"WorkerRowsModel", "isDoneBy", "(II)Z"⟩, 29) := ⟨⟨by decide +kernel, by decide +kernel⟩, List.mem_of_getElem? (i := 288) (by decide +kernel), List.mem_of_getElem? (i := 474) (by decide +kernel), List.mem_of_getElem? (i := 475) (by decide +kernel)⟩
def lw_privs_2 : List (MethodName × Nat) := [(⟨"WorkerRowsModel", "waitsAgain", "(I)V"⟩, 29), (⟨"WorkerRowsModel", "isDoneBy", "(II)Z"⟩, 29)]
theorem lw_r2 : ∀ q ∈ lw_privs_2, lw_okq q := List.forall_mem_cons.mpr ⟨lw_p16, List.forall_mem_cons.mpr ⟨lw_p17, fun _ h => absurd h List.not_mem_nil⟩⟩
def lw_privs : List (MethodName × Nat) := lw_privs_1 ++ (lw_privs_2)
def lw_tbl : List Cond := k2_sels lw_privs ++ tables_1
theorem lw_privs_ok : ∀ q ∈ lw_privs, lw_okq q := by
  show ∀ q ∈ lw_privs_1 ++ (lw_privs_2), lw_okq q
  exact List.forall_mem_append.mpr ⟨lw_r1, lw_r2⟩

def RX0 : String := "WorkerRows$Request"
def TX0 : u_T := fun k => match k with
  | 0 => ("WorkerRows$Request", "number", "I", true)
  | 1 => ("WorkerRows$Request", "tool", "LWorkerRows$Tool;", true)
  | 2 => ("WorkerRows$Request", "input", "J", true)
  | 3 => ("WorkerRows$Request", "size", "I", true)
  | 4 => ("WorkerRows$Request", "state", "I", false)
  | 5 => ("WorkerRows$Request", "begun", "I", false)
  | 6 => ("WorkerRows$Request", "unwanted", "Z", false)
  | 7 => ("WorkerRows$Request", "redone", "Z", false)
  | 8 => ("WorkerRows$Request", "result", "J", false)
  | 9 => ("WorkerRows$Request", "worker", "LWorkerRows$Worker;", false)
  | _ => ("WorkerRows$Request", "place", "I", false)
def tyX0 : Nat → FieldType := fun k => match k with
  | 0 => .int
  | 1 => .object "WorkerRows$Tool"
  | 2 => .long
  | 3 => .int
  | 4 => .int
  | 5 => .int
  | 6 => .boolean
  | 7 => .boolean
  | 8 => .long
  | 9 => .object "WorkerRows$Worker"
  | _ => .int
abbrev wsX00 : List Cond := u_ws RX0 TX0 11
theorem nmX0 : ∀ a, a < 11 → ∀ b, b < 11 → a ≠ b → (TX0 a).2.1 ≠ (TX0 b).2.1 := by decide +kernel
theorem tyX0_ok : ∀ k, k < 11 → parseFieldDescriptor (TX0 k).2.2.1 = some (tyX0 k) := by decide +kernel
def RX1 : String := "WorkerRows$Tool"
def TX1 : u_T := fun k => match k with
  | 0 => ("WorkerRows$Tool", "number", "I", true)
  | 1 => ("WorkerRows$Tool", "edition", "J", false)
  | 2 => ("WorkerRows$Tool", "quirk", "I", false)
  | _ => ("WorkerRows$Tool", "bars", "I", false)
def tyX1 : Nat → FieldType := fun k => match k with
  | 0 => .int
  | 1 => .long
  | 2 => .int
  | _ => .int
abbrev wsX10 : List Cond := u_ws RX1 TX1 4
theorem nmX1 : ∀ a, a < 4 → ∀ b, b < 4 → a ≠ b → (TX1 a).2.1 ≠ (TX1 b).2.1 := by decide +kernel
theorem tyX1_ok : ∀ k, k < 4 → parseFieldDescriptor (TX1 k).2.2.1 = some (tyX1 k) := by decide +kernel
def RX2 : String := "WorkerRows$Worker"
def TX2 : u_T := fun k => match k with
  | 0 => ("WorkerRows$Worker", "number", "I", true)
  | 1 => ("WorkerRows$Worker", "tool", "LWorkerRows$Tool;", true)
  | 2 => ("WorkerRows$Worker", "edition", "J", true)
  | 3 => ("WorkerRows$Worker", "finished", "I", false)
  | 4 => ("WorkerRows$Worker", "trusted", "I", false)
  | 5 => ("WorkerRows$Worker", "memory", "I", false)
  | 6 => ("WorkerRows$Worker", "freeSince", "I", false)
  | 7 => ("WorkerRows$Worker", "endedBy", "I", false)
  | _ => ("WorkerRows$Worker", "request", "LWorkerRows$Request;", false)
def tyX2 : Nat → FieldType := fun k => match k with
  | 0 => .int
  | 1 => .object "WorkerRows$Tool"
  | 2 => .long
  | 3 => .int
  | 4 => .int
  | 5 => .int
  | 6 => .int
  | 7 => .int
  | _ => .object "WorkerRows$Request"
abbrev wsX20 : List Cond := u_ws RX2 TX2 9
theorem nmX2 : ∀ a, a < 9 → ∀ b, b < 9 → a ≠ b → (TX2 a).2.1 ≠ (TX2 b).2.1 := by decide +kernel
theorem tyX2_ok : ∀ k, k < 9 → parseFieldDescriptor (TX2 k).2.2.1 = some (tyX2 k) := by decide +kernel
def RX3 : String := "WorkerRows"
def TX3 : u_T := fun k => match k with
  | 0 => ("WorkerRows", "most", "I", true)
  | 1 => ("WorkerRows", "bound", "I", true)
  | 2 => ("WorkerRows", "idle", "I", true)
  | 3 => ("WorkerRows", "clock", "I", false)
  | 4 => ("WorkerRows", "tools", "[LWorkerRows$Tool;", true)
  | 5 => ("WorkerRows", "workers", "[LWorkerRows$Worker;", true)
  | 6 => ("WorkerRows", "requests", "[LWorkerRows$Request;", true)
  | 7 => ("WorkerRows", "toolCount", "I", false)
  | 8 => ("WorkerRows", "workerCount", "I", false)
  | _ => ("WorkerRows", "requestCount", "I", false)
def tyX3 : Nat → FieldType := fun k => match k with
  | 0 => .int
  | 1 => .int
  | 2 => .int
  | 3 => .int
  | 4 => .array (.object "WorkerRows$Tool")
  | 5 => .array (.object "WorkerRows$Worker")
  | 6 => .array (.object "WorkerRows$Request")
  | 7 => .int
  | 8 => .int
  | _ => .int
abbrev wsX30 : List Cond := u_ws RX3 TX3 10
theorem nmX3 : ∀ a, a < 10 → ∀ b, b < 10 → a ≠ b → (TX3 a).2.1 ≠ (TX3 b).2.1 := by decide +kernel
theorem tyX3_ok : ∀ k, k < 10 → parseFieldDescriptor (TX3 k).2.2.1 = some (tyX3 k) := by decide +kernel

def RX4 : String := "WorkerRowsModel"
def TX4 : u_T := fun k => match k with
  | 0 => ("WorkerRowsModel", "most", "I", true)
  | 1 => ("WorkerRowsModel", "bound", "I", true)
  | 2 => ("WorkerRowsModel", "idle", "I", true)
  | 3 => ("WorkerRowsModel", "clock", "I", false)
  | 4 => ("WorkerRowsModel", "tools", "I", false)
  | 5 => ("WorkerRowsModel", "workers", "I", false)
  | 6 => ("WorkerRowsModel", "requests", "I", false)
  | 7 => ("WorkerRowsModel", "editionOf", "[J", true)
  | 8 => ("WorkerRowsModel", "quirkOf", "[I", true)
  | 9 => ("WorkerRowsModel", "barsOf", "[I", true)
  | 10 => ("WorkerRowsModel", "toolOf", "[I", true)
  | 11 => ("WorkerRowsModel", "state", "[I", true)
  | 12 => ("WorkerRowsModel", "finished", "[I", true)
  | 13 => ("WorkerRowsModel", "memory", "[I", true)
  | 14 => ("WorkerRowsModel", "busyWith", "[I", true)
  | 15 => ("WorkerRowsModel", "why", "[I", true)
  | 16 => ("WorkerRowsModel", "trusted", "[I", true)
  | 17 => ("WorkerRowsModel", "since", "[I", true)
  | 18 => ("WorkerRowsModel", "startedWith", "[J", true)
  | 19 => ("WorkerRowsModel", "wants", "[I", true)
  | 20 => ("WorkerRowsModel", "size", "[I", true)
  | 21 => ("WorkerRowsModel", "kind", "[I", true)
  | 22 => ("WorkerRowsModel", "by", "[I", true)
  | 23 => ("WorkerRowsModel", "place", "[I", true)
  | 24 => ("WorkerRowsModel", "begun", "[I", true)
  | 25 => ("WorkerRowsModel", "isUnwanted", "[Z", true)
  | 26 => ("WorkerRowsModel", "isRedone", "[Z", true)
  | 27 => ("WorkerRowsModel", "input", "[J", true)
  | _ => ("WorkerRowsModel", "gave", "[J", true)
def tyX4 : Nat → FieldType := fun k => match k with
  | 0 => .int
  | 1 => .int
  | 2 => .int
  | 3 => .int
  | 4 => .int
  | 5 => .int
  | 6 => .int
  | 7 => .array .long
  | 8 => .array .int
  | 9 => .array .int
  | 10 => .array .int
  | 11 => .array .int
  | 12 => .array .int
  | 13 => .array .int
  | 14 => .array .int
  | 15 => .array .int
  | 16 => .array .int
  | 17 => .array .int
  | 18 => .array .long
  | 19 => .array .int
  | 20 => .array .int
  | 21 => .array .int
  | 22 => .array .int
  | 23 => .array .int
  | 24 => .array .int
  | 25 => .array .boolean
  | 26 => .array .boolean
  | 27 => .array .long
  | _ => .array .long
theorem nmX4 : ∀ a, a < 29 → ∀ b, b < 29 → a ≠ b → (TX4 a).2.1 ≠ (TX4 b).2.1 := by decide +kernel
theorem tyX4_ok : ∀ k, k < 29 → parseFieldDescriptor (TX4 k).2.2.1 = some (tyX4 k) := by decide +kernel
def RL : String := "WorkerRowsLaw"
abbrev vwCl : List vw_C := [(RX0, TX0, 11), (RX1, TX1, 4), (RX2, TX2, 9), (RX3, TX3, 10), (RX4, TX4, 29)]
/-- the words of the tables that a callee may keep -/
def wA : List Cond := lw_tbl.filter goodWord
theorem wA_of {n : Nat} {w : Cond} (h : lw_tbl[n]? = some w) (g : goodWord w = true) : w ∈ wA := List.mem_filter.mpr ⟨List.mem_of_getElem? h, g⟩
theorem wA_good : ∀ w ∈ wA, goodWord w = true := fun w h => (List.mem_filter.mp h).2
theorem wA_tbl : ∀ w ∈ wA, w ∈ lw_tbl := fun w h => (List.mem_filter.mp h).1
set_option maxRecDepth 20000 in
theorem inX0 : ∀ w ∈ u_ws RX0 TX0 11, w ∈ wA := by decide +kernel
set_option maxRecDepth 20000 in
theorem inX1 : ∀ w ∈ u_ws RX1 TX1 4, w ∈ wA := by decide +kernel
set_option maxRecDepth 20000 in
theorem inX2 : ∀ w ∈ u_ws RX2 TX2 9, w ∈ wA := by decide +kernel
set_option maxRecDepth 20000 in
theorem inX3 : ∀ w ∈ u_ws RX3 TX3 10, w ∈ wA := by decide +kernel
set_option maxRecDepth 20000 in
theorem inX4 : ∀ w ∈ u_ws RX4 TX4 29, w ∈ wA := by decide +kernel
abbrev bC_init : ByteArray := prog_1_method_1_code
def yC_init : MethodName := ⟨RX3, "<init>", "(III)V"⟩
abbrev bC_tool : ByteArray := prog_1_method_2_code
def yC_tool : MethodName := ⟨RX3, "tool", "(JI)I"⟩
abbrev bC_edition : ByteArray := prog_1_method_3_code
def yC_edition : MethodName := ⟨RX3, "edition", "(IJ)I"⟩
abbrev bC_quirk : ByteArray := prog_1_method_4_code
def yC_quirk : MethodName := ⟨RX3, "quirk", "(II)Z"⟩
abbrev bC_request : ByteArray := prog_1_method_5_code
def yC_request : MethodName := ⟨RX3, "request", "(IJI)I"⟩
abbrev bC_cancel : ByteArray := prog_1_method_6_code
def yC_cancel : MethodName := ⟨RX3, "cancel", "(I)I"⟩
abbrev bC_step : ByteArray := prog_1_method_7_code
def yC_step : MethodName := ⟨RX3, "step", "()I"⟩
abbrev bC_finish : ByteArray := prog_1_method_8_code
def yC_finish : MethodName := ⟨RX3, "finish", "(I)I"⟩
abbrev bC_crash : ByteArray := prog_1_method_9_code
def yC_crash : MethodName := ⟨RX3, "crash", "(I)I"⟩
abbrev bC_tick : ByteArray := prog_1_method_10_code
def yC_tick : MethodName := ⟨RX3, "tick", "(I)I"⟩
abbrev bC_sample : ByteArray := prog_1_method_11_code
def yC_sample : MethodName := ⟨RX3, "sample", "(I)I"⟩
abbrev bC_about : ByteArray := prog_1_method_12_code
def yC_about : MethodName := ⟨RX3, "about", "(II)I"⟩
abbrev bC_result : ByteArray := prog_1_method_13_code
def yC_result : MethodName := ⟨RX3, "result", "(I)J"⟩
abbrev bC_worker : ByteArray := prog_1_method_14_code
def yC_worker : MethodName := ⟨RX3, "worker", "(II)I"⟩
abbrev bC_bars : ByteArray := prog_1_method_15_code
def yC_bars : MethodName := ⟨RX3, "bars", "(I)I"⟩
abbrev bC_oneShot : ByteArray := prog_1_method_16_code
def yC_oneShot : MethodName := ⟨RX3, "oneShot", "(JJ)J"⟩
abbrev bC_nearest : ByteArray := prog_1_method_17_code
def yC_nearest : MethodName := ⟨RX3, "nearest", "(III)I"⟩
abbrev bC_freshRun : ByteArray := prog_1_method_18_code
def yC_freshRun : MethodName := ⟨RX3, "freshRun", "(JJ)J"⟩
abbrev bC_whatItGives : ByteArray := prog_1_method_19_code
def yC_whatItGives : MethodName := ⟨RX3, "whatItGives", "(LWorkerRows$Worker;LWorkerRows$Request;)J"⟩
abbrev bC_toolAt : ByteArray := prog_1_method_20_code
def yC_toolAt : MethodName := ⟨RX3, "toolAt", "(I)LWorkerRows$Tool;"⟩
abbrev bC_workerAt : ByteArray := prog_1_method_21_code
def yC_workerAt : MethodName := ⟨RX3, "workerAt", "(I)LWorkerRows$Worker;"⟩
abbrev bC_requestAt : ByteArray := prog_1_method_22_code
def yC_requestAt : MethodName := ⟨RX3, "requestAt", "(I)LWorkerRows$Request;"⟩
abbrev bC_isEnded : ByteArray := prog_1_method_23_code
def yC_isEnded : MethodName := ⟨RX3, "isEnded", "(LWorkerRows$Worker;)Z"⟩
abbrev bC_stateOf : ByteArray := prog_1_method_24_code
def yC_stateOf : MethodName := ⟨RX3, "stateOf", "(LWorkerRows$Worker;)I"⟩
abbrev bC_moveOn : ByteArray := prog_1_method_25_code
def yC_moveOn : MethodName := ⟨RX3, "moveOn", "(LWorkerRows$Request;)Z"⟩
abbrev bC_firstFree : ByteArray := prog_1_method_26_code
def yC_firstFree : MethodName := ⟨RX3, "firstFree", "(LWorkerRows$Tool;)LWorkerRows$Worker;"⟩
abbrev bC_startWorker : ByteArray := prog_1_method_27_code
def yC_startWorker : MethodName := ⟨RX3, "startWorker", "(LWorkerRows$Tool;)LWorkerRows$Worker;"⟩
abbrev bC_countStaying : ByteArray := prog_1_method_28_code
def yC_countStaying : MethodName := ⟨RX3, "countStaying", "(LWorkerRows$Tool;)I"⟩
abbrev bC_beginWith : ByteArray := prog_1_method_29_code
def yC_beginWith : MethodName := ⟨RX3, "beginWith", "(LWorkerRows$Request;LWorkerRows$Worker;)V"⟩
abbrev bC_leaveDone : ByteArray := prog_1_method_30_code
def yC_leaveDone : MethodName := ⟨RX3, "leaveDone", "(LWorkerRows$Request;LWorkerRows$Worker;J)V"⟩
abbrev bC_waitAgain : ByteArray := prog_1_method_31_code
def yC_waitAgain : MethodName := ⟨RX3, "waitAgain", "(LWorkerRows$Request;)V"⟩
abbrev bC_becomeCancelled : ByteArray := prog_1_method_32_code
def yC_becomeCancelled : MethodName := ⟨RX3, "becomeCancelled", "(LWorkerRows$Request;)V"⟩
abbrev bC_endAndRequeue : ByteArray := prog_1_method_33_code
def yC_endAndRequeue : MethodName := ⟨RX3, "endAndRequeue", "(LWorkerRows$Worker;I)V"⟩
abbrev bC_redoUntrusted : ByteArray := prog_1_method_34_code
def yC_redoUntrusted : MethodName := ⟨RX3, "redoUntrusted", "(LWorkerRows$Request;LWorkerRows$Worker;)I"⟩
abbrev bM_init : ByteArray := prog_6_method_1_code
def yM_init : MethodName := ⟨RX4, "<init>", "(III)V"⟩
abbrev bM_between : ByteArray := prog_6_method_2_code
def yM_between : MethodName := ⟨RX4, "between", "(III)I"⟩
abbrev bM_in : ByteArray := prog_6_method_3_code
def yM_in : MethodName := ⟨RX4, "in", "(II)Z"⟩
abbrev bM_tool : ByteArray := prog_6_method_4_code
def yM_tool : MethodName := ⟨RX4, "tool", "(JI)I"⟩
abbrev bM_quirk : ByteArray := prog_6_method_5_code
def yM_quirk : MethodName := ⟨RX4, "quirk", "(II)Z"⟩
abbrev bM_request : ByteArray := prog_6_method_6_code
def yM_request : MethodName := ⟨RX4, "request", "(IJI)I"⟩
abbrev bM_cancel : ByteArray := prog_6_method_7_code
def yM_cancel : MethodName := ⟨RX4, "cancel", "(I)I"⟩
abbrev bM_answers : ByteArray := prog_6_method_8_code
def yM_answers : MethodName := ⟨RX4, "answers", "(IJ)V"⟩
abbrev bM_lets : ByteArray := prog_6_method_9_code
def yM_lets : MethodName := ⟨RX4, "lets", "(I)Z"⟩
abbrev bM_waitsAgain : ByteArray := prog_6_method_10_code
def yM_waitsAgain : MethodName := ⟨RX4, "waitsAgain", "(I)V"⟩
abbrev bM_ends : ByteArray := prog_6_method_11_code
def yM_ends : MethodName := ⟨RX4, "ends", "(II)I"⟩
abbrev bM_freeOne : ByteArray := prog_6_method_12_code
def yM_freeOne : MethodName := ⟨RX4, "freeOne", "(I)I"⟩
abbrev bM_alive : ByteArray := prog_6_method_13_code
def yM_alive : MethodName := ⟨RX4, "alive", "(I)I"⟩
abbrev bM_newOne : ByteArray := prog_6_method_14_code
def yM_newOne : MethodName := ⟨RX4, "newOne", "(I)I"⟩
abbrev bM_goes : ByteArray := prog_6_method_15_code
def yM_goes : MethodName := ⟨RX4, "goes", "(I)Z"⟩
abbrev bM_step : ByteArray := prog_6_method_16_code
def yM_step : MethodName := ⟨RX4, "step", "()I"⟩
abbrev bM_isBusy : ByteArray := prog_6_method_17_code
def yM_isBusy : MethodName := ⟨RX4, "isBusy", "(I)Z"⟩
abbrev bM_finish : ByteArray := prog_6_method_18_code
def yM_finish : MethodName := ⟨RX4, "finish", "(I)I"⟩
abbrev bM_crash : ByteArray := prog_6_method_19_code
def yM_crash : MethodName := ⟨RX4, "crash", "(I)I"⟩
abbrev bM_edition : ByteArray := prog_6_method_20_code
def yM_edition : MethodName := ⟨RX4, "edition", "(IJ)I"⟩
abbrev bM_tick : ByteArray := prog_6_method_21_code
def yM_tick : MethodName := ⟨RX4, "tick", "(I)I"⟩
abbrev bM_isDoneBy : ByteArray := prog_6_method_22_code
def yM_isDoneBy : MethodName := ⟨RX4, "isDoneBy", "(II)Z"⟩
abbrev bM_sample : ByteArray := prog_6_method_23_code
def yM_sample : MethodName := ⟨RX4, "sample", "(I)I"⟩
abbrev bM_about : ByteArray := prog_6_method_24_code
def yM_about : MethodName := ⟨RX4, "about", "(II)I"⟩
abbrev bM_result : ByteArray := prog_6_method_25_code
def yM_result : MethodName := ⟨RX4, "result", "(I)J"⟩
abbrev bM_worker : ByteArray := prog_6_method_26_code
def yM_worker : MethodName := ⟨RX4, "worker", "(II)I"⟩
abbrev bM_bars : ByteArray := prog_6_method_27_code
def yM_bars : MethodName := ⟨RX4, "bars", "(I)I"⟩
abbrev bM_oneShot : ByteArray := prog_6_method_28_code
def yM_oneShot : MethodName := ⟨RX4, "oneShot", "(JJ)J"⟩
abbrev bR_init : ByteArray := prog_2_method_1_code
def yR_init : MethodName := ⟨RX0, "<init>", "(ILWorkerRows$Tool;JI)V"⟩
abbrev bT_init : ByteArray := prog_3_method_1_code
def yT_init : MethodName := ⟨RX1, "<init>", "(IJI)V"⟩
abbrev bW_init : ByteArray := prog_4_method_1_code
def yW_init : MethodName := ⟨RX2, "<init>", "(ILWorkerRows$Tool;)V"⟩
abbrev bL_cell : ByteArray := method_2_code
def yL_cell : MethodName := ⟨RL, "cell", "([II)I"⟩
abbrev bL_law : ByteArray := code
end
section
theorem dC_init_0 : decode bC_init 0 = .ok (.aload_n 0, 1) := by decide +kernel
theorem dC_init_1 : decode bC_init 1 = .ok (.invokespecial 1, 3) := by decide +kernel
theorem dC_init_4 : decode bC_init 4 = .ok (.aload_n 0, 1) := by decide +kernel
theorem dC_init_5 : decode bC_init 5 = .ok (.bipush 6, 2) := by decide +kernel
theorem dC_init_7 : decode bC_init 7 = .ok (.anewarray 9, 3) := by decide +kernel
theorem dC_init_10 : decode bC_init 10 = .ok (.putfield 11, 3) := by decide +kernel
theorem dC_init_13 : decode bC_init 13 = .ok (.aload_n 0, 1) := by decide +kernel
theorem dC_init_14 : decode bC_init 14 = .ok (.bipush 60, 2) := by decide +kernel
theorem dC_init_16 : decode bC_init 16 = .ok (.anewarray 15, 3) := by decide +kernel
theorem dC_init_19 : decode bC_init 19 = .ok (.putfield 17, 3) := by decide +kernel
theorem dC_init_22 : decode bC_init 22 = .ok (.aload_n 0, 1) := by decide +kernel
theorem dC_init_23 : decode bC_init 23 = .ok (.bipush 100, 2) := by decide +kernel
theorem dC_init_25 : decode bC_init 25 = .ok (.anewarray 21, 3) := by decide +kernel
theorem dC_init_28 : decode bC_init 28 = .ok (.putfield 23, 3) := by decide +kernel
theorem dC_init_31 : decode bC_init 31 = .ok (.aload_n 0, 1) := by decide +kernel
theorem dC_init_32 : decode bC_init 32 = .ok (.iload_n 1, 1) := by decide +kernel
theorem dC_init_33 : decode bC_init 33 = .ok (.iconst 1, 1) := by decide +kernel
theorem dC_init_34 : decode bC_init 34 = .ok (.iconst 4, 1) := by decide +kernel
theorem dC_init_35 : decode bC_init 35 = .ok (.invokestatic 27, 3) := by decide +kernel
theorem dC_init_38 : decode bC_init 38 = .ok (.putfield 31, 3) := by decide +kernel
theorem dC_init_41 : decode bC_init 41 = .ok (.aload_n 0, 1) := by decide +kernel
theorem dC_init_42 : decode bC_init 42 = .ok (.iload_n 2, 1) := by decide +kernel
theorem dC_init_43 : decode bC_init 43 = .ok (.iconst 0, 1) := by decide +kernel
theorem dC_init_44 : decode bC_init 44 = .ok (.ldc 35, 2) := by decide +kernel
theorem dC_init_46 : decode bC_init 46 = .ok (.invokestatic 27, 3) := by decide +kernel
theorem dC_init_49 : decode bC_init 49 = .ok (.putfield 36, 3) := by decide +kernel
theorem dC_init_52 : decode bC_init 52 = .ok (.aload_n 0, 1) := by decide +kernel
theorem dC_init_53 : decode bC_init 53 = .ok (.iload_n 3, 1) := by decide +kernel
theorem dC_init_54 : decode bC_init 54 = .ok (.iconst 1, 1) := by decide +kernel
theorem dC_init_55 : decode bC_init 55 = .ok (.sipush 1000, 3) := by decide +kernel
theorem dC_init_58 : decode bC_init 58 = .ok (.invokestatic 27, 3) := by decide +kernel
theorem dC_init_61 : decode bC_init 61 = .ok (.putfield 39, 3) := by decide +kernel
theorem dC_init_64 : decode bC_init 64 = .ok (.return_, 1) := by decide +kernel
theorem dC_tool_0 : decode bC_tool 0 = .ok (.aload_n 0, 1) := by decide +kernel
theorem dC_tool_1 : decode bC_tool 1 = .ok (.getfield 42, 3) := by decide +kernel
theorem dC_tool_4 : decode bC_tool 4 = .ok (.aload_n 0, 1) := by decide +kernel
theorem dC_tool_5 : decode bC_tool 5 = .ok (.getfield 11, 3) := by decide +kernel
theorem dC_tool_8 : decode bC_tool 8 = .ok (.arraylength, 1) := by decide +kernel
theorem dC_tool_9 : decode bC_tool 9 = .ok (.if_icmp .lt 5, 3) := by decide +kernel
theorem dC_tool_12 : decode bC_tool 12 = .ok (.iconst (-1), 1) := by decide +kernel
theorem dC_tool_13 : decode bC_tool 13 = .ok (.ireturn, 1) := by decide +kernel
theorem dC_tool_14 : decode bC_tool 14 = .ok (.new 9, 3) := by decide +kernel
theorem dC_tool_17 : decode bC_tool 17 = .ok (.dup, 1) := by decide +kernel
theorem dC_tool_18 : decode bC_tool 18 = .ok (.aload_n 0, 1) := by decide +kernel
theorem dC_tool_19 : decode bC_tool 19 = .ok (.getfield 42, 3) := by decide +kernel
theorem dC_tool_22 : decode bC_tool 22 = .ok (.lload_n 1, 1) := by decide +kernel
theorem dC_tool_23 : decode bC_tool 23 = .ok (.iload_n 3, 1) := by decide +kernel
theorem dC_tool_24 : decode bC_tool 24 = .ok (.invokespecial 45, 3) := by decide +kernel
theorem dC_tool_27 : decode bC_tool 27 = .ok (.astore 4, 2) := by decide +kernel
theorem dC_tool_29 : decode bC_tool 29 = .ok (.aload_n 0, 1) := by decide +kernel
theorem dC_tool_30 : decode bC_tool 30 = .ok (.getfield 11, 3) := by decide +kernel
theorem dC_tool_33 : decode bC_tool 33 = .ok (.aload_n 0, 1) := by decide +kernel
theorem dC_tool_34 : decode bC_tool 34 = .ok (.getfield 42, 3) := by decide +kernel
theorem dC_tool_37 : decode bC_tool 37 = .ok (.aload 4, 2) := by decide +kernel
theorem dC_tool_39 : decode bC_tool 39 = .ok (.aastore, 1) := by decide +kernel
theorem dC_tool_40 : decode bC_tool 40 = .ok (.aload_n 0, 1) := by decide +kernel
theorem dC_tool_41 : decode bC_tool 41 = .ok (.dup, 1) := by decide +kernel
theorem dC_tool_42 : decode bC_tool 42 = .ok (.getfield 42, 3) := by decide +kernel
theorem dC_tool_45 : decode bC_tool 45 = .ok (.iconst 1, 1) := by decide +kernel
theorem dC_tool_46 : decode bC_tool 46 = .ok (.iadd, 1) := by decide +kernel
theorem dC_tool_47 : decode bC_tool 47 = .ok (.putfield 42, 3) := by decide +kernel
theorem dC_tool_50 : decode bC_tool 50 = .ok (.aload 4, 2) := by decide +kernel
theorem dC_tool_52 : decode bC_tool 52 = .ok (.getfield 48, 3) := by decide +kernel
theorem dC_tool_55 : decode bC_tool 55 = .ok (.ireturn, 1) := by decide +kernel
theorem dC_edition_0 : decode bC_edition 0 = .ok (.aload_n 0, 1) := by decide +kernel
theorem dC_edition_1 : decode bC_edition 1 = .ok (.iload_n 1, 1) := by decide +kernel
theorem dC_edition_2 : decode bC_edition 2 = .ok (.invokevirtual 51, 3) := by decide +kernel
theorem dC_edition_5 : decode bC_edition 5 = .ok (.astore 4, 2) := by decide +kernel
theorem dC_edition_7 : decode bC_edition 7 = .ok (.aload 4, 2) := by decide +kernel
theorem dC_edition_9 : decode bC_edition 9 = .ok (.ifnonnull 5, 3) := by decide +kernel
theorem dC_edition_12 : decode bC_edition 12 = .ok (.iconst (-1), 1) := by decide +kernel
theorem dC_edition_13 : decode bC_edition 13 = .ok (.ireturn, 1) := by decide +kernel
theorem dC_edition_14 : decode bC_edition 14 = .ok (.aload 4, 2) := by decide +kernel
theorem dC_edition_16 : decode bC_edition 16 = .ok (.lload_n 2, 1) := by decide +kernel
theorem dC_edition_17 : decode bC_edition 17 = .ok (.putfield 55, 3) := by decide +kernel
theorem dC_edition_20 : decode bC_edition 20 = .ok (.iconst 0, 1) := by decide +kernel
theorem dC_edition_21 : decode bC_edition 21 = .ok (.istore 5, 2) := by decide +kernel
theorem dC_edition_23 : decode bC_edition 23 = .ok (.aload_n 0, 1) := by decide +kernel
theorem dC_edition_24 : decode bC_edition 24 = .ok (.getfield 17, 3) := by decide +kernel
theorem dC_edition_27 : decode bC_edition 27 = .ok (.astore 6, 2) := by decide +kernel
theorem dC_edition_29 : decode bC_edition 29 = .ok (.aload 6, 2) := by decide +kernel
theorem dC_edition_31 : decode bC_edition 31 = .ok (.arraylength, 1) := by decide +kernel
theorem dC_edition_32 : decode bC_edition 32 = .ok (.istore 7, 2) := by decide +kernel
theorem dC_edition_34 : decode bC_edition 34 = .ok (.iconst 0, 1) := by decide +kernel
theorem dC_edition_35 : decode bC_edition 35 = .ok (.istore 8, 2) := by decide +kernel
theorem dC_edition_37 : decode bC_edition 37 = .ok (.iload 8, 2) := by decide +kernel
theorem dC_edition_39 : decode bC_edition 39 = .ok (.iload 7, 2) := by decide +kernel
theorem dC_edition_41 : decode bC_edition 41 = .ok (.if_icmp .ge 48, 3) := by decide +kernel
theorem dC_edition_44 : decode bC_edition 44 = .ok (.aload 6, 2) := by decide +kernel
theorem dC_edition_46 : decode bC_edition 46 = .ok (.iload 8, 2) := by decide +kernel
theorem dC_edition_48 : decode bC_edition 48 = .ok (.aaload, 1) := by decide +kernel
theorem dC_edition_49 : decode bC_edition 49 = .ok (.astore 9, 2) := by decide +kernel
theorem dC_edition_51 : decode bC_edition 51 = .ok (.aload 9, 2) := by decide +kernel
theorem dC_edition_53 : decode bC_edition 53 = .ok (.ifnull 30, 3) := by decide +kernel
theorem dC_edition_56 : decode bC_edition 56 = .ok (.aload 9, 2) := by decide +kernel
theorem dC_edition_58 : decode bC_edition 58 = .ok (.getfield 59, 3) := by decide +kernel
theorem dC_edition_61 : decode bC_edition 61 = .ok (.aload 4, 2) := by decide +kernel
theorem dC_edition_63 : decode bC_edition 63 = .ok (.if_acmp .ne 20, 3) := by decide +kernel
theorem dC_edition_66 : decode bC_edition 66 = .ok (.aload 9, 2) := by decide +kernel
theorem dC_edition_68 : decode bC_edition 68 = .ok (.invokestatic 63, 3) := by decide +kernel
theorem dC_edition_71 : decode bC_edition 71 = .ok (.ifCond .ne 12, 3) := by decide +kernel
theorem dC_edition_74 : decode bC_edition 74 = .ok (.aload 9, 2) := by decide +kernel
theorem dC_edition_76 : decode bC_edition 76 = .ok (.iconst 1, 1) := by decide +kernel
theorem dC_edition_77 : decode bC_edition 77 = .ok (.invokestatic 67, 3) := by decide +kernel
theorem dC_edition_80 : decode bC_edition 80 = .ok (.iinc 5 1, 3) := by decide +kernel
theorem dC_edition_83 : decode bC_edition 83 = .ok (.iinc 8 1, 3) := by decide +kernel
theorem dC_edition_86 : decode bC_edition 86 = .ok (.goto (-49), 3) := by decide +kernel
theorem dC_edition_89 : decode bC_edition 89 = .ok (.iload 5, 2) := by decide +kernel
theorem dC_edition_91 : decode bC_edition 91 = .ok (.ireturn, 1) := by decide +kernel
theorem dC_quirk_0 : decode bC_quirk 0 = .ok (.aload_n 0, 1) := by decide +kernel
theorem dC_quirk_1 : decode bC_quirk 1 = .ok (.iload_n 1, 1) := by decide +kernel
theorem dC_quirk_2 : decode bC_quirk 2 = .ok (.invokevirtual 51, 3) := by decide +kernel
theorem dC_quirk_5 : decode bC_quirk 5 = .ok (.astore_n 3, 1) := by decide +kernel
theorem dC_quirk_6 : decode bC_quirk 6 = .ok (.aload_n 3, 1) := by decide +kernel
theorem dC_quirk_7 : decode bC_quirk 7 = .ok (.ifnonnull 5, 3) := by decide +kernel
theorem dC_quirk_10 : decode bC_quirk 10 = .ok (.iconst 0, 1) := by decide +kernel
theorem dC_quirk_11 : decode bC_quirk 11 = .ok (.ireturn, 1) := by decide +kernel
theorem dC_quirk_12 : decode bC_quirk 12 = .ok (.aload_n 3, 1) := by decide +kernel
theorem dC_quirk_13 : decode bC_quirk 13 = .ok (.iload_n 2, 1) := by decide +kernel
theorem dC_quirk_14 : decode bC_quirk 14 = .ok (.putfield 71, 3) := by decide +kernel
theorem dC_quirk_17 : decode bC_quirk 17 = .ok (.iconst 1, 1) := by decide +kernel
theorem dC_quirk_18 : decode bC_quirk 18 = .ok (.ireturn, 1) := by decide +kernel
theorem dC_request_0 : decode bC_request 0 = .ok (.aload_n 0, 1) := by decide +kernel
theorem dC_request_1 : decode bC_request 1 = .ok (.iload_n 1, 1) := by decide +kernel
theorem dC_request_2 : decode bC_request 2 = .ok (.invokevirtual 51, 3) := by decide +kernel
theorem dC_request_5 : decode bC_request 5 = .ok (.astore 5, 2) := by decide +kernel
theorem dC_request_7 : decode bC_request 7 = .ok (.aload 5, 2) := by decide +kernel
theorem dC_request_9 : decode bC_request 9 = .ok (.ifnull 28, 3) := by decide +kernel
theorem dC_request_12 : decode bC_request 12 = .ok (.aload_n 0, 1) := by decide +kernel
theorem dC_request_13 : decode bC_request 13 = .ok (.getfield 74, 3) := by decide +kernel
theorem dC_request_16 : decode bC_request 16 = .ok (.aload_n 0, 1) := by decide +kernel
theorem dC_request_17 : decode bC_request 17 = .ok (.getfield 23, 3) := by decide +kernel
theorem dC_request_20 : decode bC_request 20 = .ok (.arraylength, 1) := by decide +kernel
theorem dC_request_21 : decode bC_request 21 = .ok (.if_icmp .ge 16, 3) := by decide +kernel
theorem dC_request_24 : decode bC_request 24 = .ok (.iload 4, 2) := by decide +kernel
theorem dC_request_26 : decode bC_request 26 = .ok (.ifCond .lt 11, 3) := by decide +kernel
theorem dC_request_29 : decode bC_request 29 = .ok (.iload 4, 2) := by decide +kernel
theorem dC_request_31 : decode bC_request 31 = .ok (.sipush 1000, 3) := by decide +kernel
theorem dC_request_34 : decode bC_request 34 = .ok (.if_icmp .le 5, 3) := by decide +kernel
theorem dC_request_37 : decode bC_request 37 = .ok (.iconst (-1), 1) := by decide +kernel
theorem dC_request_38 : decode bC_request 38 = .ok (.ireturn, 1) := by decide +kernel
theorem dC_request_39 : decode bC_request 39 = .ok (.new 21, 3) := by decide +kernel
theorem dC_request_42 : decode bC_request 42 = .ok (.dup, 1) := by decide +kernel
theorem dC_request_43 : decode bC_request 43 = .ok (.aload_n 0, 1) := by decide +kernel
theorem dC_request_44 : decode bC_request 44 = .ok (.getfield 74, 3) := by decide +kernel
theorem dC_request_47 : decode bC_request 47 = .ok (.aload 5, 2) := by decide +kernel
theorem dC_request_49 : decode bC_request 49 = .ok (.lload_n 2, 1) := by decide +kernel
theorem dC_request_50 : decode bC_request 50 = .ok (.iload 4, 2) := by decide +kernel
theorem dC_request_52 : decode bC_request 52 = .ok (.invokespecial 77, 3) := by decide +kernel
theorem dC_request_55 : decode bC_request 55 = .ok (.astore 6, 2) := by decide +kernel
theorem dC_request_57 : decode bC_request 57 = .ok (.aload_n 0, 1) := by decide +kernel
theorem dC_request_58 : decode bC_request 58 = .ok (.getfield 23, 3) := by decide +kernel
theorem dC_request_61 : decode bC_request 61 = .ok (.aload_n 0, 1) := by decide +kernel
theorem dC_request_62 : decode bC_request 62 = .ok (.getfield 74, 3) := by decide +kernel
theorem dC_request_65 : decode bC_request 65 = .ok (.aload 6, 2) := by decide +kernel
theorem dC_request_67 : decode bC_request 67 = .ok (.aastore, 1) := by decide +kernel
theorem dC_request_68 : decode bC_request 68 = .ok (.aload_n 0, 1) := by decide +kernel
theorem dC_request_69 : decode bC_request 69 = .ok (.dup, 1) := by decide +kernel
theorem dC_request_70 : decode bC_request 70 = .ok (.getfield 74, 3) := by decide +kernel
theorem dC_request_73 : decode bC_request 73 = .ok (.iconst 1, 1) := by decide +kernel
theorem dC_request_74 : decode bC_request 74 = .ok (.iadd, 1) := by decide +kernel
theorem dC_request_75 : decode bC_request 75 = .ok (.putfield 74, 3) := by decide +kernel
theorem dC_request_78 : decode bC_request 78 = .ok (.aload 6, 2) := by decide +kernel
theorem dC_request_80 : decode bC_request 80 = .ok (.getfield 80, 3) := by decide +kernel
theorem dC_request_83 : decode bC_request 83 = .ok (.ireturn, 1) := by decide +kernel
theorem dC_cancel_0 : decode bC_cancel 0 = .ok (.aload_n 0, 1) := by decide +kernel
theorem dC_cancel_1 : decode bC_cancel 1 = .ok (.iload_n 1, 1) := by decide +kernel
theorem dC_cancel_2 : decode bC_cancel 2 = .ok (.invokevirtual 81, 3) := by decide +kernel
theorem dC_cancel_5 : decode bC_cancel 5 = .ok (.astore_n 2, 1) := by decide +kernel
theorem dC_cancel_6 : decode bC_cancel 6 = .ok (.aload_n 2, 1) := by decide +kernel
theorem dC_cancel_7 : decode bC_cancel 7 = .ok (.ifnonnull 5, 3) := by decide +kernel
theorem dC_cancel_10 : decode bC_cancel 10 = .ok (.iconst (-1), 1) := by decide +kernel
theorem dC_cancel_11 : decode bC_cancel 11 = .ok (.ireturn, 1) := by decide +kernel
theorem dC_cancel_12 : decode bC_cancel 12 = .ok (.aload_n 2, 1) := by decide +kernel
theorem dC_cancel_13 : decode bC_cancel 13 = .ok (.getfield 85, 3) := by decide +kernel
theorem dC_cancel_16 : decode bC_cancel 16 = .ok (.ifCond .ne 9, 3) := by decide +kernel
theorem dC_cancel_19 : decode bC_cancel 19 = .ok (.aload_n 2, 1) := by decide +kernel
theorem dC_cancel_20 : decode bC_cancel 20 = .ok (.invokestatic 88, 3) := by decide +kernel
theorem dC_cancel_23 : decode bC_cancel 23 = .ok (.iconst 1, 1) := by decide +kernel
theorem dC_cancel_24 : decode bC_cancel 24 = .ok (.ireturn, 1) := by decide +kernel
theorem dC_cancel_25 : decode bC_cancel 25 = .ok (.aload_n 2, 1) := by decide +kernel
theorem dC_cancel_26 : decode bC_cancel 26 = .ok (.getfield 85, 3) := by decide +kernel
theorem dC_cancel_29 : decode bC_cancel 29 = .ok (.iconst 1, 1) := by decide +kernel
theorem dC_cancel_30 : decode bC_cancel 30 = .ok (.if_icmp .ne 10, 3) := by decide +kernel
theorem dC_cancel_33 : decode bC_cancel 33 = .ok (.aload_n 2, 1) := by decide +kernel
theorem dC_cancel_34 : decode bC_cancel 34 = .ok (.iconst 1, 1) := by decide +kernel
theorem dC_cancel_35 : decode bC_cancel 35 = .ok (.putfield 92, 3) := by decide +kernel
theorem dC_cancel_38 : decode bC_cancel 38 = .ok (.iconst 2, 1) := by decide +kernel
theorem dC_cancel_39 : decode bC_cancel 39 = .ok (.ireturn, 1) := by decide +kernel
theorem dC_cancel_40 : decode bC_cancel 40 = .ok (.iconst 0, 1) := by decide +kernel
theorem dC_cancel_41 : decode bC_cancel 41 = .ok (.ireturn, 1) := by decide +kernel
theorem dC_step_0 : decode bC_step 0 = .ok (.iconst 0, 1) := by decide +kernel
theorem dC_step_1 : decode bC_step 1 = .ok (.istore_n 1, 1) := by decide +kernel
theorem dC_step_2 : decode bC_step 2 = .ok (.aload_n 0, 1) := by decide +kernel
theorem dC_step_3 : decode bC_step 3 = .ok (.getfield 23, 3) := by decide +kernel
theorem dC_step_6 : decode bC_step 6 = .ok (.astore_n 2, 1) := by decide +kernel
theorem dC_step_7 : decode bC_step 7 = .ok (.aload_n 2, 1) := by decide +kernel
theorem dC_step_8 : decode bC_step 8 = .ok (.arraylength, 1) := by decide +kernel
theorem dC_step_9 : decode bC_step 9 = .ok (.istore_n 3, 1) := by decide +kernel
theorem dC_step_10 : decode bC_step 10 = .ok (.iconst 0, 1) := by decide +kernel
theorem dC_step_11 : decode bC_step 11 = .ok (.istore 4, 2) := by decide +kernel
theorem dC_step_13 : decode bC_step 13 = .ok (.iload 4, 2) := by decide +kernel
theorem dC_step_15 : decode bC_step 15 = .ok (.iload_n 3, 1) := by decide +kernel
theorem dC_step_16 : decode bC_step 16 = .ok (.if_icmp .ge 40, 3) := by decide +kernel
theorem dC_step_19 : decode bC_step 19 = .ok (.aload_n 2, 1) := by decide +kernel
theorem dC_step_20 : decode bC_step 20 = .ok (.iload 4, 2) := by decide +kernel
theorem dC_step_22 : decode bC_step 22 = .ok (.aaload, 1) := by decide +kernel
theorem dC_step_23 : decode bC_step 23 = .ok (.astore 5, 2) := by decide +kernel
theorem dC_step_25 : decode bC_step 25 = .ok (.aload 5, 2) := by decide +kernel
theorem dC_step_27 : decode bC_step 27 = .ok (.ifnull 23, 3) := by decide +kernel
theorem dC_step_30 : decode bC_step 30 = .ok (.aload 5, 2) := by decide +kernel
theorem dC_step_32 : decode bC_step 32 = .ok (.getfield 85, 3) := by decide +kernel
theorem dC_step_35 : decode bC_step 35 = .ok (.ifCond .ne 15, 3) := by decide +kernel
theorem dC_step_38 : decode bC_step 38 = .ok (.aload_n 0, 1) := by decide +kernel
theorem dC_step_39 : decode bC_step 39 = .ok (.aload 5, 2) := by decide +kernel
theorem dC_step_41 : decode bC_step 41 = .ok (.invokevirtual 96, 3) := by decide +kernel
theorem dC_step_44 : decode bC_step 44 = .ok (.ifCond .eq 6, 3) := by decide +kernel
theorem dC_step_47 : decode bC_step 47 = .ok (.iinc 1 1, 3) := by decide +kernel
theorem dC_step_50 : decode bC_step 50 = .ok (.iinc 4 1, 3) := by decide +kernel
theorem dC_step_53 : decode bC_step 53 = .ok (.goto (-40), 3) := by decide +kernel
theorem dC_step_56 : decode bC_step 56 = .ok (.iload_n 1, 1) := by decide +kernel
theorem dC_step_57 : decode bC_step 57 = .ok (.ireturn, 1) := by decide +kernel
theorem dC_finish_0 : decode bC_finish 0 = .ok (.aload_n 0, 1) := by decide +kernel
theorem dC_finish_1 : decode bC_finish 1 = .ok (.iload_n 1, 1) := by decide +kernel
theorem dC_finish_2 : decode bC_finish 2 = .ok (.invokevirtual 100, 3) := by decide +kernel
theorem dC_finish_5 : decode bC_finish 5 = .ok (.astore_n 2, 1) := by decide +kernel
theorem dC_finish_6 : decode bC_finish 6 = .ok (.aload_n 2, 1) := by decide +kernel
theorem dC_finish_7 : decode bC_finish 7 = .ok (.ifnull 10, 3) := by decide +kernel
theorem dC_finish_10 : decode bC_finish 10 = .ok (.aload_n 2, 1) := by decide +kernel
theorem dC_finish_11 : decode bC_finish 11 = .ok (.getfield 104, 3) := by decide +kernel
theorem dC_finish_14 : decode bC_finish 14 = .ok (.ifnonnull 5, 3) := by decide +kernel
theorem dC_finish_17 : decode bC_finish 17 = .ok (.iconst (-1), 1) := by decide +kernel
theorem dC_finish_18 : decode bC_finish 18 = .ok (.ireturn, 1) := by decide +kernel
theorem dC_finish_19 : decode bC_finish 19 = .ok (.aload_n 2, 1) := by decide +kernel
theorem dC_finish_20 : decode bC_finish 20 = .ok (.getfield 104, 3) := by decide +kernel
theorem dC_finish_23 : decode bC_finish 23 = .ok (.astore_n 3, 1) := by decide +kernel
theorem dC_finish_24 : decode bC_finish 24 = .ok (.aload_n 2, 1) := by decide +kernel
theorem dC_finish_25 : decode bC_finish 25 = .ok (.aload_n 3, 1) := by decide +kernel
theorem dC_finish_26 : decode bC_finish 26 = .ok (.invokestatic 108, 3) := by decide +kernel
theorem dC_finish_29 : decode bC_finish 29 = .ok (.lstore 4, 2) := by decide +kernel
theorem dC_finish_31 : decode bC_finish 31 = .ok (.aload_n 2, 1) := by decide +kernel
theorem dC_finish_32 : decode bC_finish 32 = .ok (.aconst_null, 1) := by decide +kernel
theorem dC_finish_33 : decode bC_finish 33 = .ok (.putfield 104, 3) := by decide +kernel
theorem dC_finish_36 : decode bC_finish 36 = .ok (.aload_n 2, 1) := by decide +kernel
theorem dC_finish_37 : decode bC_finish 37 = .ok (.dup, 1) := by decide +kernel
theorem dC_finish_38 : decode bC_finish 38 = .ok (.getfield 112, 3) := by decide +kernel
theorem dC_finish_41 : decode bC_finish 41 = .ok (.iconst 1, 1) := by decide +kernel
theorem dC_finish_42 : decode bC_finish 42 = .ok (.iadd, 1) := by decide +kernel
theorem dC_finish_43 : decode bC_finish 43 = .ok (.putfield 112, 3) := by decide +kernel
theorem dC_finish_46 : decode bC_finish 46 = .ok (.aload_n 2, 1) := by decide +kernel
theorem dC_finish_47 : decode bC_finish 47 = .ok (.dup, 1) := by decide +kernel
theorem dC_finish_48 : decode bC_finish 48 = .ok (.getfield 115, 3) := by decide +kernel
theorem dC_finish_51 : decode bC_finish 51 = .ok (.aload_n 3, 1) := by decide +kernel
theorem dC_finish_52 : decode bC_finish 52 = .ok (.getfield 118, 3) := by decide +kernel
theorem dC_finish_55 : decode bC_finish 55 = .ok (.iadd, 1) := by decide +kernel
theorem dC_finish_56 : decode bC_finish 56 = .ok (.putfield 115, 3) := by decide +kernel
theorem dC_finish_59 : decode bC_finish 59 = .ok (.aload_n 3, 1) := by decide +kernel
theorem dC_finish_60 : decode bC_finish 60 = .ok (.aload_n 2, 1) := by decide +kernel
theorem dC_finish_61 : decode bC_finish 61 = .ok (.getfield 112, 3) := by decide +kernel
theorem dC_finish_64 : decode bC_finish 64 = .ok (.putfield 121, 3) := by decide +kernel
theorem dC_finish_67 : decode bC_finish 67 = .ok (.aload_n 3, 1) := by decide +kernel
theorem dC_finish_68 : decode bC_finish 68 = .ok (.aload_n 2, 1) := by decide +kernel
theorem dC_finish_69 : decode bC_finish 69 = .ok (.lload 4, 2) := by decide +kernel
theorem dC_finish_71 : decode bC_finish 71 = .ok (.invokestatic 124, 3) := by decide +kernel
theorem dC_finish_74 : decode bC_finish 74 = .ok (.aload_n 2, 1) := by decide +kernel
theorem dC_finish_75 : decode bC_finish 75 = .ok (.getfield 115, 3) := by decide +kernel
theorem dC_finish_78 : decode bC_finish 78 = .ok (.aload_n 0, 1) := by decide +kernel
theorem dC_finish_79 : decode bC_finish 79 = .ok (.getfield 36, 3) := by decide +kernel
theorem dC_finish_82 : decode bC_finish 82 = .ok (.if_icmp .le 11, 3) := by decide +kernel
theorem dC_finish_85 : decode bC_finish 85 = .ok (.aload_n 2, 1) := by decide +kernel
theorem dC_finish_86 : decode bC_finish 86 = .ok (.iconst 2, 1) := by decide +kernel
theorem dC_finish_87 : decode bC_finish 87 = .ok (.putfield 128, 3) := by decide +kernel
theorem dC_finish_90 : decode bC_finish 90 = .ok (.goto 11, 3) := by decide +kernel
theorem dC_finish_93 : decode bC_finish 93 = .ok (.aload_n 2, 1) := by decide +kernel
theorem dC_finish_94 : decode bC_finish 94 = .ok (.aload_n 0, 1) := by decide +kernel
theorem dC_finish_95 : decode bC_finish 95 = .ok (.getfield 131, 3) := by decide +kernel
theorem dC_finish_98 : decode bC_finish 98 = .ok (.putfield 134, 3) := by decide +kernel
theorem dC_finish_101 : decode bC_finish 101 = .ok (.aload_n 3, 1) := by decide +kernel
theorem dC_finish_102 : decode bC_finish 102 = .ok (.getfield 80, 3) := by decide +kernel
theorem dC_finish_105 : decode bC_finish 105 = .ok (.ireturn, 1) := by decide +kernel
theorem dC_crash_0 : decode bC_crash 0 = .ok (.aload_n 0, 1) := by decide +kernel
theorem dC_crash_1 : decode bC_crash 1 = .ok (.iload_n 1, 1) := by decide +kernel
theorem dC_crash_2 : decode bC_crash 2 = .ok (.invokevirtual 100, 3) := by decide +kernel
theorem dC_crash_5 : decode bC_crash 5 = .ok (.astore_n 2, 1) := by decide +kernel
theorem dC_crash_6 : decode bC_crash 6 = .ok (.aload_n 2, 1) := by decide +kernel
theorem dC_crash_7 : decode bC_crash 7 = .ok (.ifnull 10, 3) := by decide +kernel
theorem dC_crash_10 : decode bC_crash 10 = .ok (.aload_n 2, 1) := by decide +kernel
theorem dC_crash_11 : decode bC_crash 11 = .ok (.invokestatic 63, 3) := by decide +kernel
theorem dC_crash_14 : decode bC_crash 14 = .ok (.ifCond .eq 5, 3) := by decide +kernel
theorem dC_crash_17 : decode bC_crash 17 = .ok (.iconst (-1), 1) := by decide +kernel
theorem dC_crash_18 : decode bC_crash 18 = .ok (.ireturn, 1) := by decide +kernel
theorem dC_crash_19 : decode bC_crash 19 = .ok (.aload_n 2, 1) := by decide +kernel
theorem dC_crash_20 : decode bC_crash 20 = .ok (.getfield 104, 3) := by decide +kernel
theorem dC_crash_23 : decode bC_crash 23 = .ok (.astore_n 3, 1) := by decide +kernel
theorem dC_crash_24 : decode bC_crash 24 = .ok (.aload_n 2, 1) := by decide +kernel
theorem dC_crash_25 : decode bC_crash 25 = .ok (.aconst_null, 1) := by decide +kernel
theorem dC_crash_26 : decode bC_crash 26 = .ok (.putfield 104, 3) := by decide +kernel
theorem dC_crash_29 : decode bC_crash 29 = .ok (.aload_n 2, 1) := by decide +kernel
theorem dC_crash_30 : decode bC_crash 30 = .ok (.iconst 3, 1) := by decide +kernel
theorem dC_crash_31 : decode bC_crash 31 = .ok (.putfield 128, 3) := by decide +kernel
theorem dC_crash_34 : decode bC_crash 34 = .ok (.aload_n 3, 1) := by decide +kernel
theorem dC_crash_35 : decode bC_crash 35 = .ok (.ifnull 19, 3) := by decide +kernel
theorem dC_crash_38 : decode bC_crash 38 = .ok (.aload_n 3, 1) := by decide +kernel
theorem dC_crash_39 : decode bC_crash 39 = .ok (.aconst_null, 1) := by decide +kernel
theorem dC_crash_40 : decode bC_crash 40 = .ok (.aload_n 2, 1) := by decide +kernel
theorem dC_crash_41 : decode bC_crash 41 = .ok (.getfield 137, 3) := by decide +kernel
theorem dC_crash_44 : decode bC_crash 44 = .ok (.aload_n 3, 1) := by decide +kernel
theorem dC_crash_45 : decode bC_crash 45 = .ok (.getfield 138, 3) := by decide +kernel
theorem dC_crash_48 : decode bC_crash 48 = .ok (.invokestatic 141, 3) := by decide +kernel
theorem dC_crash_51 : decode bC_crash 51 = .ok (.invokestatic 124, 3) := by decide +kernel
theorem dC_crash_54 : decode bC_crash 54 = .ok (.iconst 1, 1) := by decide +kernel
theorem dC_crash_55 : decode bC_crash 55 = .ok (.ireturn, 1) := by decide +kernel
theorem dC_tick_0 : decode bC_tick 0 = .ok (.iload_n 1, 1) := by decide +kernel
theorem dC_tick_1 : decode bC_tick 1 = .ok (.ifCond .lt 21, 3) := by decide +kernel
theorem dC_tick_4 : decode bC_tick 4 = .ok (.iload_n 1, 1) := by decide +kernel
theorem dC_tick_5 : decode bC_tick 5 = .ok (.sipush 10000, 3) := by decide +kernel
theorem dC_tick_8 : decode bC_tick 8 = .ok (.if_icmp .gt 14, 3) := by decide +kernel
theorem dC_tick_11 : decode bC_tick 11 = .ok (.aload_n 0, 1) := by decide +kernel
theorem dC_tick_12 : decode bC_tick 12 = .ok (.getfield 131, 3) := by decide +kernel
theorem dC_tick_15 : decode bC_tick 15 = .ok (.ldc 145, 2) := by decide +kernel
theorem dC_tick_17 : decode bC_tick 17 = .ok (.iload_n 1, 1) := by decide +kernel
theorem dC_tick_18 : decode bC_tick 18 = .ok (.isub, 1) := by decide +kernel
theorem dC_tick_19 : decode bC_tick 19 = .ok (.if_icmp .le 5, 3) := by decide +kernel
theorem dC_tick_22 : decode bC_tick 22 = .ok (.iconst (-1), 1) := by decide +kernel
theorem dC_tick_23 : decode bC_tick 23 = .ok (.ireturn, 1) := by decide +kernel
theorem dC_tick_24 : decode bC_tick 24 = .ok (.aload_n 0, 1) := by decide +kernel
theorem dC_tick_25 : decode bC_tick 25 = .ok (.dup, 1) := by decide +kernel
theorem dC_tick_26 : decode bC_tick 26 = .ok (.getfield 131, 3) := by decide +kernel
theorem dC_tick_29 : decode bC_tick 29 = .ok (.iload_n 1, 1) := by decide +kernel
theorem dC_tick_30 : decode bC_tick 30 = .ok (.iadd, 1) := by decide +kernel
theorem dC_tick_31 : decode bC_tick 31 = .ok (.putfield 131, 3) := by decide +kernel
theorem dC_tick_34 : decode bC_tick 34 = .ok (.iconst 0, 1) := by decide +kernel
theorem dC_tick_35 : decode bC_tick 35 = .ok (.istore_n 2, 1) := by decide +kernel
theorem dC_tick_36 : decode bC_tick 36 = .ok (.aload_n 0, 1) := by decide +kernel
theorem dC_tick_37 : decode bC_tick 37 = .ok (.getfield 17, 3) := by decide +kernel
theorem dC_tick_40 : decode bC_tick 40 = .ok (.astore_n 3, 1) := by decide +kernel
theorem dC_tick_41 : decode bC_tick 41 = .ok (.aload_n 3, 1) := by decide +kernel
theorem dC_tick_42 : decode bC_tick 42 = .ok (.arraylength, 1) := by decide +kernel
theorem dC_tick_43 : decode bC_tick 43 = .ok (.istore 4, 2) := by decide +kernel
theorem dC_tick_45 : decode bC_tick 45 = .ok (.iconst 0, 1) := by decide +kernel
theorem dC_tick_46 : decode bC_tick 46 = .ok (.istore 5, 2) := by decide +kernel
theorem dC_tick_48 : decode bC_tick 48 = .ok (.iload 5, 2) := by decide +kernel
theorem dC_tick_50 : decode bC_tick 50 = .ok (.iload 4, 2) := by decide +kernel
theorem dC_tick_52 : decode bC_tick 52 = .ok (.if_icmp .ge 54, 3) := by decide +kernel
theorem dC_tick_55 : decode bC_tick 55 = .ok (.aload_n 3, 1) := by decide +kernel
theorem dC_tick_56 : decode bC_tick 56 = .ok (.iload 5, 2) := by decide +kernel
theorem dC_tick_58 : decode bC_tick 58 = .ok (.aaload, 1) := by decide +kernel
theorem dC_tick_59 : decode bC_tick 59 = .ok (.astore 6, 2) := by decide +kernel
theorem dC_tick_61 : decode bC_tick 61 = .ok (.aload 6, 2) := by decide +kernel
theorem dC_tick_63 : decode bC_tick 63 = .ok (.ifnull 37, 3) := by decide +kernel
theorem dC_tick_66 : decode bC_tick 66 = .ok (.aload 6, 2) := by decide +kernel
theorem dC_tick_68 : decode bC_tick 68 = .ok (.invokestatic 146, 3) := by decide +kernel
theorem dC_tick_71 : decode bC_tick 71 = .ok (.ifCond .ne 29, 3) := by decide +kernel
theorem dC_tick_74 : decode bC_tick 74 = .ok (.aload_n 0, 1) := by decide +kernel
theorem dC_tick_75 : decode bC_tick 75 = .ok (.getfield 131, 3) := by decide +kernel
theorem dC_tick_78 : decode bC_tick 78 = .ok (.aload 6, 2) := by decide +kernel
theorem dC_tick_80 : decode bC_tick 80 = .ok (.getfield 134, 3) := by decide +kernel
theorem dC_tick_83 : decode bC_tick 83 = .ok (.isub, 1) := by decide +kernel
theorem dC_tick_84 : decode bC_tick 84 = .ok (.aload_n 0, 1) := by decide +kernel
theorem dC_tick_85 : decode bC_tick 85 = .ok (.getfield 39, 3) := by decide +kernel
theorem dC_tick_88 : decode bC_tick 88 = .ok (.if_icmp .lt 12, 3) := by decide +kernel
theorem dC_tick_91 : decode bC_tick 91 = .ok (.aload 6, 2) := by decide +kernel
theorem dC_tick_93 : decode bC_tick 93 = .ok (.iconst 4, 1) := by decide +kernel
theorem dC_tick_94 : decode bC_tick 94 = .ok (.putfield 128, 3) := by decide +kernel
theorem dC_tick_97 : decode bC_tick 97 = .ok (.iinc 2 1, 3) := by decide +kernel
theorem dC_tick_100 : decode bC_tick 100 = .ok (.iinc 5 1, 3) := by decide +kernel
theorem dC_tick_103 : decode bC_tick 103 = .ok (.goto (-55), 3) := by decide +kernel
theorem dC_tick_106 : decode bC_tick 106 = .ok (.iload_n 2, 1) := by decide +kernel
theorem dC_tick_107 : decode bC_tick 107 = .ok (.ireturn, 1) := by decide +kernel
theorem dC_sample_0 : decode bC_sample 0 = .ok (.aload_n 0, 1) := by decide +kernel
theorem dC_sample_1 : decode bC_sample 1 = .ok (.iload_n 1, 1) := by decide +kernel
theorem dC_sample_2 : decode bC_sample 2 = .ok (.invokevirtual 81, 3) := by decide +kernel
theorem dC_sample_5 : decode bC_sample 5 = .ok (.astore_n 2, 1) := by decide +kernel
theorem dC_sample_6 : decode bC_sample 6 = .ok (.aload_n 2, 1) := by decide +kernel
theorem dC_sample_7 : decode bC_sample 7 = .ok (.ifnull 18, 3) := by decide +kernel
theorem dC_sample_10 : decode bC_sample 10 = .ok (.aload_n 2, 1) := by decide +kernel
theorem dC_sample_11 : decode bC_sample 11 = .ok (.getfield 85, 3) := by decide +kernel
theorem dC_sample_14 : decode bC_sample 14 = .ok (.iconst 2, 1) := by decide +kernel
theorem dC_sample_15 : decode bC_sample 15 = .ok (.if_icmp .ne 10, 3) := by decide +kernel
theorem dC_sample_18 : decode bC_sample 18 = .ok (.aload_n 2, 1) := by decide +kernel
theorem dC_sample_19 : decode bC_sample 19 = .ok (.getfield 150, 3) := by decide +kernel
theorem dC_sample_22 : decode bC_sample 22 = .ok (.ifnonnull 5, 3) := by decide +kernel
theorem dC_sample_25 : decode bC_sample 25 = .ok (.iconst (-1), 1) := by decide +kernel
theorem dC_sample_26 : decode bC_sample 26 = .ok (.ireturn, 1) := by decide +kernel
theorem dC_sample_27 : decode bC_sample 27 = .ok (.aload_n 2, 1) := by decide +kernel
theorem dC_sample_28 : decode bC_sample 28 = .ok (.getfield 150, 3) := by decide +kernel
theorem dC_sample_31 : decode bC_sample 31 = .ok (.astore_n 3, 1) := by decide +kernel
theorem dC_sample_32 : decode bC_sample 32 = .ok (.aload_n 2, 1) := by decide +kernel
theorem dC_sample_33 : decode bC_sample 33 = .ok (.getfield 154, 3) := by decide +kernel
theorem dC_sample_36 : decode bC_sample 36 = .ok (.aload_n 3, 1) := by decide +kernel
theorem dC_sample_37 : decode bC_sample 37 = .ok (.getfield 137, 3) := by decide +kernel
theorem dC_sample_40 : decode bC_sample 40 = .ok (.aload_n 2, 1) := by decide +kernel
theorem dC_sample_41 : decode bC_sample 41 = .ok (.getfield 138, 3) := by decide +kernel
theorem dC_sample_44 : decode bC_sample 44 = .ok (.invokestatic 141, 3) := by decide +kernel
theorem dC_sample_47 : decode bC_sample 47 = .ok (.lcmp, 1) := by decide +kernel
theorem dC_sample_48 : decode bC_sample 48 = .ok (.ifCond .ne 20, 3) := by decide +kernel
theorem dC_sample_51 : decode bC_sample 51 = .ok (.aload_n 3, 1) := by decide +kernel
theorem dC_sample_52 : decode bC_sample 52 = .ok (.aload_n 3, 1) := by decide +kernel
theorem dC_sample_53 : decode bC_sample 53 = .ok (.getfield 157, 3) := by decide +kernel
theorem dC_sample_56 : decode bC_sample 56 = .ok (.aload_n 2, 1) := by decide +kernel
theorem dC_sample_57 : decode bC_sample 57 = .ok (.getfield 121, 3) := by decide +kernel
theorem dC_sample_60 : decode bC_sample 60 = .ok (.invokestatic 160, 3) := by decide +kernel
theorem dC_sample_63 : decode bC_sample 63 = .ok (.putfield 157, 3) := by decide +kernel
theorem dC_sample_66 : decode bC_sample 66 = .ok (.iconst 0, 1) := by decide +kernel
theorem dC_sample_67 : decode bC_sample 67 = .ok (.ireturn, 1) := by decide +kernel
theorem dC_sample_68 : decode bC_sample 68 = .ok (.aload_n 0, 1) := by decide +kernel
theorem dC_sample_69 : decode bC_sample 69 = .ok (.aload_n 2, 1) := by decide +kernel
theorem dC_sample_70 : decode bC_sample 70 = .ok (.aload_n 3, 1) := by decide +kernel
theorem dC_sample_71 : decode bC_sample 71 = .ok (.invokevirtual 166, 3) := by decide +kernel
theorem dC_sample_74 : decode bC_sample 74 = .ok (.istore 4, 2) := by decide +kernel
theorem dC_sample_76 : decode bC_sample 76 = .ok (.aload_n 3, 1) := by decide +kernel
theorem dC_sample_77 : decode bC_sample 77 = .ok (.invokestatic 63, 3) := by decide +kernel
theorem dC_sample_80 : decode bC_sample 80 = .ok (.ifCond .ne 8, 3) := by decide +kernel
theorem dC_sample_83 : decode bC_sample 83 = .ok (.aload_n 3, 1) := by decide +kernel
theorem dC_sample_84 : decode bC_sample 84 = .ok (.iconst 5, 1) := by decide +kernel
theorem dC_sample_85 : decode bC_sample 85 = .ok (.invokestatic 67, 3) := by decide +kernel
theorem dC_sample_88 : decode bC_sample 88 = .ok (.aload_n 3, 1) := by decide +kernel
theorem dC_sample_89 : decode bC_sample 89 = .ok (.getfield 59, 3) := by decide +kernel
theorem dC_sample_92 : decode bC_sample 92 = .ok (.dup, 1) := by decide +kernel
theorem dC_sample_93 : decode bC_sample 93 = .ok (.getfield 170, 3) := by decide +kernel
theorem dC_sample_96 : decode bC_sample 96 = .ok (.iconst 1, 1) := by decide +kernel
theorem dC_sample_97 : decode bC_sample 97 = .ok (.iadd, 1) := by decide +kernel
theorem dC_sample_98 : decode bC_sample 98 = .ok (.putfield 170, 3) := by decide +kernel
theorem dC_sample_101 : decode bC_sample 101 = .ok (.iload 4, 2) := by decide +kernel
theorem dC_sample_103 : decode bC_sample 103 = .ok (.ireturn, 1) := by decide +kernel
theorem dC_about_0 : decode bC_about 0 = .ok (.aload_n 0, 1) := by decide +kernel
theorem dC_about_1 : decode bC_about 1 = .ok (.iload_n 1, 1) := by decide +kernel
theorem dC_about_2 : decode bC_about 2 = .ok (.invokevirtual 81, 3) := by decide +kernel
theorem dC_about_5 : decode bC_about 5 = .ok (.astore_n 3, 1) := by decide +kernel
theorem dC_about_6 : decode bC_about 6 = .ok (.aload_n 3, 1) := by decide +kernel
theorem dC_about_7 : decode bC_about 7 = .ok (.ifnonnull 5, 3) := by decide +kernel
theorem dC_about_10 : decode bC_about 10 = .ok (.iconst (-1), 1) := by decide +kernel
theorem dC_about_11 : decode bC_about 11 = .ok (.ireturn, 1) := by decide +kernel
theorem dC_about_12 : decode bC_about 12 = .ok (.iload_n 2, 1) := by decide +kernel
theorem dC_about_13 : decode bC_about 13 = .ok (.tableswitch 90 0 4 #[35, 40, 59, 64, 77], 35) := by decide +kernel
theorem dC_about_48 : decode bC_about 48 = .ok (.aload_n 3, 1) := by decide +kernel
theorem dC_about_49 : decode bC_about 49 = .ok (.getfield 85, 3) := by decide +kernel
theorem dC_about_52 : decode bC_about 52 = .ok (.ireturn, 1) := by decide +kernel
theorem dC_about_53 : decode bC_about 53 = .ok (.aload_n 3, 1) := by decide +kernel
theorem dC_about_54 : decode bC_about 54 = .ok (.getfield 150, 3) := by decide +kernel
theorem dC_about_57 : decode bC_about 57 = .ok (.ifnonnull 7, 3) := by decide +kernel
theorem dC_about_60 : decode bC_about 60 = .ok (.iconst (-1), 1) := by decide +kernel
theorem dC_about_61 : decode bC_about 61 = .ok (.goto 10, 3) := by decide +kernel
theorem dC_about_64 : decode bC_about 64 = .ok (.aload_n 3, 1) := by decide +kernel
theorem dC_about_65 : decode bC_about 65 = .ok (.getfield 150, 3) := by decide +kernel
theorem dC_about_68 : decode bC_about 68 = .ok (.getfield 173, 3) := by decide +kernel
theorem dC_about_71 : decode bC_about 71 = .ok (.ireturn, 1) := by decide +kernel
theorem dC_about_72 : decode bC_about 72 = .ok (.aload_n 3, 1) := by decide +kernel
theorem dC_about_73 : decode bC_about 73 = .ok (.getfield 174, 3) := by decide +kernel
theorem dC_about_76 : decode bC_about 76 = .ok (.ireturn, 1) := by decide +kernel
theorem dC_about_77 : decode bC_about 77 = .ok (.aload_n 3, 1) := by decide +kernel
theorem dC_about_78 : decode bC_about 78 = .ok (.getfield 92, 3) := by decide +kernel
theorem dC_about_81 : decode bC_about 81 = .ok (.ifCond .eq 7, 3) := by decide +kernel
theorem dC_about_84 : decode bC_about 84 = .ok (.iconst 1, 1) := by decide +kernel
theorem dC_about_85 : decode bC_about 85 = .ok (.goto 4, 3) := by decide +kernel
theorem dC_about_88 : decode bC_about 88 = .ok (.iconst 0, 1) := by decide +kernel
theorem dC_about_89 : decode bC_about 89 = .ok (.ireturn, 1) := by decide +kernel
theorem dC_about_90 : decode bC_about 90 = .ok (.aload_n 3, 1) := by decide +kernel
theorem dC_about_91 : decode bC_about 91 = .ok (.getfield 177, 3) := by decide +kernel
theorem dC_about_94 : decode bC_about 94 = .ok (.ifCond .eq 7, 3) := by decide +kernel
theorem dC_about_97 : decode bC_about 97 = .ok (.iconst 1, 1) := by decide +kernel
theorem dC_about_98 : decode bC_about 98 = .ok (.goto 4, 3) := by decide +kernel
theorem dC_about_101 : decode bC_about 101 = .ok (.iconst 0, 1) := by decide +kernel
theorem dC_about_102 : decode bC_about 102 = .ok (.ireturn, 1) := by decide +kernel
theorem dC_about_103 : decode bC_about 103 = .ok (.iconst (-1), 1) := by decide +kernel
theorem dC_about_104 : decode bC_about 104 = .ok (.ireturn, 1) := by decide +kernel
theorem dC_result_0 : decode bC_result 0 = .ok (.aload_n 0, 1) := by decide +kernel
theorem dC_result_1 : decode bC_result 1 = .ok (.iload_n 1, 1) := by decide +kernel
theorem dC_result_2 : decode bC_result 2 = .ok (.invokevirtual 81, 3) := by decide +kernel
theorem dC_result_5 : decode bC_result 5 = .ok (.astore_n 2, 1) := by decide +kernel
theorem dC_result_6 : decode bC_result 6 = .ok (.aload_n 2, 1) := by decide +kernel
theorem dC_result_7 : decode bC_result 7 = .ok (.ifnull 11, 3) := by decide +kernel
theorem dC_result_10 : decode bC_result 10 = .ok (.aload_n 2, 1) := by decide +kernel
theorem dC_result_11 : decode bC_result 11 = .ok (.getfield 85, 3) := by decide +kernel
theorem dC_result_14 : decode bC_result 14 = .ok (.iconst 2, 1) := by decide +kernel
theorem dC_result_15 : decode bC_result 15 = .ok (.if_icmp .eq 5, 3) := by decide +kernel
theorem dC_result_18 : decode bC_result 18 = .ok (.lconst 0, 1) := by decide +kernel
theorem dC_result_19 : decode bC_result 19 = .ok (.lreturn, 1) := by decide +kernel
theorem dC_result_20 : decode bC_result 20 = .ok (.aload_n 2, 1) := by decide +kernel
theorem dC_result_21 : decode bC_result 21 = .ok (.getfield 154, 3) := by decide +kernel
theorem dC_result_24 : decode bC_result 24 = .ok (.lreturn, 1) := by decide +kernel
theorem dC_worker_0 : decode bC_worker 0 = .ok (.aload_n 0, 1) := by decide +kernel
theorem dC_worker_1 : decode bC_worker 1 = .ok (.iload_n 1, 1) := by decide +kernel
theorem dC_worker_2 : decode bC_worker 2 = .ok (.invokevirtual 100, 3) := by decide +kernel
theorem dC_worker_5 : decode bC_worker 5 = .ok (.astore_n 3, 1) := by decide +kernel
theorem dC_worker_6 : decode bC_worker 6 = .ok (.aload_n 3, 1) := by decide +kernel
theorem dC_worker_7 : decode bC_worker 7 = .ok (.ifnonnull 5, 3) := by decide +kernel
theorem dC_worker_10 : decode bC_worker 10 = .ok (.iconst (-1), 1) := by decide +kernel
theorem dC_worker_11 : decode bC_worker 11 = .ok (.ireturn, 1) := by decide +kernel
theorem dC_worker_12 : decode bC_worker 12 = .ok (.iload_n 2, 1) := by decide +kernel
theorem dC_worker_13 : decode bC_worker 13 = .ok (.tableswitch 95 0 6 #[43, 51, 56, 61, 66, 85, 90], 43) := by decide +kernel
theorem dC_worker_56 : decode bC_worker 56 = .ok (.aload_n 3, 1) := by decide +kernel
theorem dC_worker_57 : decode bC_worker 57 = .ok (.getfield 59, 3) := by decide +kernel
theorem dC_worker_60 : decode bC_worker 60 = .ok (.getfield 48, 3) := by decide +kernel
theorem dC_worker_63 : decode bC_worker 63 = .ok (.ireturn, 1) := by decide +kernel
theorem dC_worker_64 : decode bC_worker 64 = .ok (.aload_n 3, 1) := by decide +kernel
theorem dC_worker_65 : decode bC_worker 65 = .ok (.invokestatic 146, 3) := by decide +kernel
theorem dC_worker_68 : decode bC_worker 68 = .ok (.ireturn, 1) := by decide +kernel
theorem dC_worker_69 : decode bC_worker 69 = .ok (.aload_n 3, 1) := by decide +kernel
theorem dC_worker_70 : decode bC_worker 70 = .ok (.getfield 112, 3) := by decide +kernel
theorem dC_worker_73 : decode bC_worker 73 = .ok (.ireturn, 1) := by decide +kernel
theorem dC_worker_74 : decode bC_worker 74 = .ok (.aload_n 3, 1) := by decide +kernel
theorem dC_worker_75 : decode bC_worker 75 = .ok (.getfield 115, 3) := by decide +kernel
theorem dC_worker_78 : decode bC_worker 78 = .ok (.ireturn, 1) := by decide +kernel
theorem dC_worker_79 : decode bC_worker 79 = .ok (.aload_n 3, 1) := by decide +kernel
theorem dC_worker_80 : decode bC_worker 80 = .ok (.getfield 104, 3) := by decide +kernel
theorem dC_worker_83 : decode bC_worker 83 = .ok (.ifnonnull 7, 3) := by decide +kernel
theorem dC_worker_86 : decode bC_worker 86 = .ok (.iconst (-1), 1) := by decide +kernel
theorem dC_worker_87 : decode bC_worker 87 = .ok (.goto 10, 3) := by decide +kernel
theorem dC_worker_90 : decode bC_worker 90 = .ok (.aload_n 3, 1) := by decide +kernel
theorem dC_worker_91 : decode bC_worker 91 = .ok (.getfield 104, 3) := by decide +kernel
theorem dC_worker_94 : decode bC_worker 94 = .ok (.getfield 80, 3) := by decide +kernel
theorem dC_worker_97 : decode bC_worker 97 = .ok (.ireturn, 1) := by decide +kernel
theorem dC_worker_98 : decode bC_worker 98 = .ok (.aload_n 3, 1) := by decide +kernel
theorem dC_worker_99 : decode bC_worker 99 = .ok (.getfield 128, 3) := by decide +kernel
theorem dC_worker_102 : decode bC_worker 102 = .ok (.ireturn, 1) := by decide +kernel
theorem dC_worker_103 : decode bC_worker 103 = .ok (.aload_n 3, 1) := by decide +kernel
theorem dC_worker_104 : decode bC_worker 104 = .ok (.getfield 157, 3) := by decide +kernel
theorem dC_worker_107 : decode bC_worker 107 = .ok (.ireturn, 1) := by decide +kernel
theorem dC_worker_108 : decode bC_worker 108 = .ok (.iconst (-1), 1) := by decide +kernel
theorem dC_worker_109 : decode bC_worker 109 = .ok (.ireturn, 1) := by decide +kernel
theorem dC_bars_0 : decode bC_bars 0 = .ok (.aload_n 0, 1) := by decide +kernel
theorem dC_bars_1 : decode bC_bars 1 = .ok (.iload_n 1, 1) := by decide +kernel
theorem dC_bars_2 : decode bC_bars 2 = .ok (.invokevirtual 51, 3) := by decide +kernel
theorem dC_bars_5 : decode bC_bars 5 = .ok (.astore_n 2, 1) := by decide +kernel
theorem dC_bars_6 : decode bC_bars 6 = .ok (.aload_n 2, 1) := by decide +kernel
theorem dC_bars_7 : decode bC_bars 7 = .ok (.ifnonnull 7, 3) := by decide +kernel
theorem dC_bars_10 : decode bC_bars 10 = .ok (.iconst (-1), 1) := by decide +kernel
theorem dC_bars_11 : decode bC_bars 11 = .ok (.goto 7, 3) := by decide +kernel
theorem dC_bars_14 : decode bC_bars 14 = .ok (.aload_n 2, 1) := by decide +kernel
theorem dC_bars_15 : decode bC_bars 15 = .ok (.getfield 170, 3) := by decide +kernel
theorem dC_bars_18 : decode bC_bars 18 = .ok (.ireturn, 1) := by decide +kernel
theorem dC_oneShot_0 : decode bC_oneShot 0 = .ok (.lload_n 1, 1) := by decide +kernel
theorem dC_oneShot_1 : decode bC_oneShot 1 = .ok (.lload_n 3, 1) := by decide +kernel
theorem dC_oneShot_2 : decode bC_oneShot 2 = .ok (.invokestatic 141, 3) := by decide +kernel
theorem dC_oneShot_5 : decode bC_oneShot 5 = .ok (.lreturn, 1) := by decide +kernel
theorem dC_nearest_0 : decode bC_nearest 0 = .ok (.iload_n 1, 1) := by decide +kernel
theorem dC_nearest_1 : decode bC_nearest 1 = .ok (.iload_n 2, 1) := by decide +kernel
theorem dC_nearest_2 : decode bC_nearest 2 = .ok (.iload_n 0, 1) := by decide +kernel
theorem dC_nearest_3 : decode bC_nearest 3 = .ok (.invokestatic 180, 3) := by decide +kernel
theorem dC_nearest_6 : decode bC_nearest 6 = .ok (.invokestatic 160, 3) := by decide +kernel
theorem dC_nearest_9 : decode bC_nearest 9 = .ok (.ireturn, 1) := by decide +kernel
theorem dC_freshRun_0 : decode bC_freshRun 0 = .ok (.lload_n 0, 1) := by decide +kernel
theorem dC_freshRun_1 : decode bC_freshRun 1 = .ok (.lload_n 2, 1) := by decide +kernel
theorem dC_freshRun_2 : decode bC_freshRun 2 = .ok (.lxor, 1) := by decide +kernel
theorem dC_freshRun_3 : decode bC_freshRun 3 = .ok (.lstore 4, 2) := by decide +kernel
theorem dC_freshRun_5 : decode bC_freshRun 5 = .ok (.iconst 0, 1) := by decide +kernel
theorem dC_freshRun_6 : decode bC_freshRun 6 = .ok (.istore 6, 2) := by decide +kernel
theorem dC_freshRun_8 : decode bC_freshRun 8 = .ok (.iload 6, 2) := by decide +kernel
theorem dC_freshRun_10 : decode bC_freshRun 10 = .ok (.iconst 2, 1) := by decide +kernel
theorem dC_freshRun_11 : decode bC_freshRun 11 = .ok (.if_icmp .ge 23, 3) := by decide +kernel
theorem dC_freshRun_14 : decode bC_freshRun 14 = .ok (.lload 4, 2) := by decide +kernel
theorem dC_freshRun_16 : decode bC_freshRun 16 = .ok (.lload 4, 2) := by decide +kernel
theorem dC_freshRun_18 : decode bC_freshRun 18 = .ok (.bipush 31, 2) := by decide +kernel
theorem dC_freshRun_20 : decode bC_freshRun 20 = .ok (.lushr, 1) := by decide +kernel
theorem dC_freshRun_21 : decode bC_freshRun 21 = .ok (.lxor, 1) := by decide +kernel
theorem dC_freshRun_22 : decode bC_freshRun 22 = .ok (.ldc2_w 183, 3) := by decide +kernel
theorem dC_freshRun_25 : decode bC_freshRun 25 = .ok (.lmul, 1) := by decide +kernel
theorem dC_freshRun_26 : decode bC_freshRun 26 = .ok (.lstore 4, 2) := by decide +kernel
theorem dC_freshRun_28 : decode bC_freshRun 28 = .ok (.iinc 6 1, 3) := by decide +kernel
theorem dC_freshRun_31 : decode bC_freshRun 31 = .ok (.goto (-23), 3) := by decide +kernel
theorem dC_freshRun_34 : decode bC_freshRun 34 = .ok (.lload 4, 2) := by decide +kernel
theorem dC_freshRun_36 : decode bC_freshRun 36 = .ok (.lload_n 2, 1) := by decide +kernel
theorem dC_freshRun_37 : decode bC_freshRun 37 = .ok (.ladd, 1) := by decide +kernel
theorem dC_freshRun_38 : decode bC_freshRun 38 = .ok (.lreturn, 1) := by decide +kernel
theorem dC_whatItGives_0 : decode bC_whatItGives 0 = .ok (.aload_n 0, 1) := by decide +kernel
theorem dC_whatItGives_1 : decode bC_whatItGives 1 = .ok (.getfield 59, 3) := by decide +kernel
theorem dC_whatItGives_4 : decode bC_whatItGives 4 = .ok (.getfield 71, 3) := by decide +kernel
theorem dC_whatItGives_7 : decode bC_whatItGives 7 = .ok (.i2l, 1) := by decide +kernel
theorem dC_whatItGives_8 : decode bC_whatItGives 8 = .ok (.aload_n 0, 1) := by decide +kernel
theorem dC_whatItGives_9 : decode bC_whatItGives 9 = .ok (.getfield 112, 3) := by decide +kernel
theorem dC_whatItGives_12 : decode bC_whatItGives 12 = .ok (.i2l, 1) := by decide +kernel
theorem dC_whatItGives_13 : decode bC_whatItGives 13 = .ok (.lmul, 1) := by decide +kernel
theorem dC_whatItGives_14 : decode bC_whatItGives 14 = .ok (.lstore_n 2, 1) := by decide +kernel
theorem dC_whatItGives_15 : decode bC_whatItGives 15 = .ok (.aload_n 0, 1) := by decide +kernel
theorem dC_whatItGives_16 : decode bC_whatItGives 16 = .ok (.getfield 137, 3) := by decide +kernel
theorem dC_whatItGives_19 : decode bC_whatItGives 19 = .ok (.aload_n 1, 1) := by decide +kernel
theorem dC_whatItGives_20 : decode bC_whatItGives 20 = .ok (.getfield 138, 3) := by decide +kernel
theorem dC_whatItGives_23 : decode bC_whatItGives 23 = .ok (.invokestatic 141, 3) := by decide +kernel
theorem dC_whatItGives_26 : decode bC_whatItGives 26 = .ok (.lload_n 2, 1) := by decide +kernel
theorem dC_whatItGives_27 : decode bC_whatItGives 27 = .ok (.ladd, 1) := by decide +kernel
theorem dC_whatItGives_28 : decode bC_whatItGives 28 = .ok (.lreturn, 1) := by decide +kernel
theorem dC_toolAt_0 : decode bC_toolAt 0 = .ok (.iload_n 1, 1) := by decide +kernel
theorem dC_toolAt_1 : decode bC_toolAt 1 = .ok (.ifCond .lt 12, 3) := by decide +kernel
theorem dC_toolAt_4 : decode bC_toolAt 4 = .ok (.iload_n 1, 1) := by decide +kernel
theorem dC_toolAt_5 : decode bC_toolAt 5 = .ok (.aload_n 0, 1) := by decide +kernel
theorem dC_toolAt_6 : decode bC_toolAt 6 = .ok (.getfield 11, 3) := by decide +kernel
theorem dC_toolAt_9 : decode bC_toolAt 9 = .ok (.arraylength, 1) := by decide +kernel
theorem dC_toolAt_10 : decode bC_toolAt 10 = .ok (.if_icmp .lt 7, 3) := by decide +kernel
theorem dC_toolAt_13 : decode bC_toolAt 13 = .ok (.aconst_null, 1) := by decide +kernel
theorem dC_toolAt_14 : decode bC_toolAt 14 = .ok (.goto 9, 3) := by decide +kernel
theorem dC_toolAt_17 : decode bC_toolAt 17 = .ok (.aload_n 0, 1) := by decide +kernel
theorem dC_toolAt_18 : decode bC_toolAt 18 = .ok (.getfield 11, 3) := by decide +kernel
theorem dC_toolAt_21 : decode bC_toolAt 21 = .ok (.iload_n 1, 1) := by decide +kernel
theorem dC_toolAt_22 : decode bC_toolAt 22 = .ok (.aaload, 1) := by decide +kernel
theorem dC_toolAt_23 : decode bC_toolAt 23 = .ok (.areturn, 1) := by decide +kernel
theorem dC_workerAt_0 : decode bC_workerAt 0 = .ok (.iload_n 1, 1) := by decide +kernel
theorem dC_workerAt_1 : decode bC_workerAt 1 = .ok (.ifCond .lt 12, 3) := by decide +kernel
theorem dC_workerAt_4 : decode bC_workerAt 4 = .ok (.iload_n 1, 1) := by decide +kernel
theorem dC_workerAt_5 : decode bC_workerAt 5 = .ok (.aload_n 0, 1) := by decide +kernel
theorem dC_workerAt_6 : decode bC_workerAt 6 = .ok (.getfield 17, 3) := by decide +kernel
theorem dC_workerAt_9 : decode bC_workerAt 9 = .ok (.arraylength, 1) := by decide +kernel
theorem dC_workerAt_10 : decode bC_workerAt 10 = .ok (.if_icmp .lt 7, 3) := by decide +kernel
theorem dC_workerAt_13 : decode bC_workerAt 13 = .ok (.aconst_null, 1) := by decide +kernel
theorem dC_workerAt_14 : decode bC_workerAt 14 = .ok (.goto 9, 3) := by decide +kernel
theorem dC_workerAt_17 : decode bC_workerAt 17 = .ok (.aload_n 0, 1) := by decide +kernel
theorem dC_workerAt_18 : decode bC_workerAt 18 = .ok (.getfield 17, 3) := by decide +kernel
theorem dC_workerAt_21 : decode bC_workerAt 21 = .ok (.iload_n 1, 1) := by decide +kernel
theorem dC_workerAt_22 : decode bC_workerAt 22 = .ok (.aaload, 1) := by decide +kernel
theorem dC_workerAt_23 : decode bC_workerAt 23 = .ok (.areturn, 1) := by decide +kernel
theorem dC_requestAt_0 : decode bC_requestAt 0 = .ok (.iload_n 1, 1) := by decide +kernel
theorem dC_requestAt_1 : decode bC_requestAt 1 = .ok (.ifCond .lt 12, 3) := by decide +kernel
theorem dC_requestAt_4 : decode bC_requestAt 4 = .ok (.iload_n 1, 1) := by decide +kernel
theorem dC_requestAt_5 : decode bC_requestAt 5 = .ok (.aload_n 0, 1) := by decide +kernel
theorem dC_requestAt_6 : decode bC_requestAt 6 = .ok (.getfield 23, 3) := by decide +kernel
theorem dC_requestAt_9 : decode bC_requestAt 9 = .ok (.arraylength, 1) := by decide +kernel
theorem dC_requestAt_10 : decode bC_requestAt 10 = .ok (.if_icmp .lt 7, 3) := by decide +kernel
theorem dC_requestAt_13 : decode bC_requestAt 13 = .ok (.aconst_null, 1) := by decide +kernel
theorem dC_requestAt_14 : decode bC_requestAt 14 = .ok (.goto 9, 3) := by decide +kernel
theorem dC_requestAt_17 : decode bC_requestAt 17 = .ok (.aload_n 0, 1) := by decide +kernel
theorem dC_requestAt_18 : decode bC_requestAt 18 = .ok (.getfield 23, 3) := by decide +kernel
theorem dC_requestAt_21 : decode bC_requestAt 21 = .ok (.iload_n 1, 1) := by decide +kernel
theorem dC_requestAt_22 : decode bC_requestAt 22 = .ok (.aaload, 1) := by decide +kernel
theorem dC_requestAt_23 : decode bC_requestAt 23 = .ok (.areturn, 1) := by decide +kernel
theorem dC_isEnded_0 : decode bC_isEnded 0 = .ok (.aload_n 0, 1) := by decide +kernel
theorem dC_isEnded_1 : decode bC_isEnded 1 = .ok (.getfield 128, 3) := by decide +kernel
theorem dC_isEnded_4 : decode bC_isEnded 4 = .ok (.ifCond .eq 7, 3) := by decide +kernel
theorem dC_isEnded_7 : decode bC_isEnded 7 = .ok (.iconst 1, 1) := by decide +kernel
theorem dC_isEnded_8 : decode bC_isEnded 8 = .ok (.goto 4, 3) := by decide +kernel
theorem dC_isEnded_11 : decode bC_isEnded 11 = .ok (.iconst 0, 1) := by decide +kernel
theorem dC_isEnded_12 : decode bC_isEnded 12 = .ok (.ireturn, 1) := by decide +kernel
theorem dC_stateOf_0 : decode bC_stateOf 0 = .ok (.aload_n 0, 1) := by decide +kernel
theorem dC_stateOf_1 : decode bC_stateOf 1 = .ok (.invokestatic 63, 3) := by decide +kernel
theorem dC_stateOf_4 : decode bC_stateOf 4 = .ok (.ifCond .eq 5, 3) := by decide +kernel
theorem dC_stateOf_7 : decode bC_stateOf 7 = .ok (.iconst 2, 1) := by decide +kernel
theorem dC_stateOf_8 : decode bC_stateOf 8 = .ok (.ireturn, 1) := by decide +kernel
theorem dC_stateOf_9 : decode bC_stateOf 9 = .ok (.aload_n 0, 1) := by decide +kernel
theorem dC_stateOf_10 : decode bC_stateOf 10 = .ok (.getfield 104, 3) := by decide +kernel
theorem dC_stateOf_13 : decode bC_stateOf 13 = .ok (.ifnonnull 7, 3) := by decide +kernel
theorem dC_stateOf_16 : decode bC_stateOf 16 = .ok (.iconst 0, 1) := by decide +kernel
theorem dC_stateOf_17 : decode bC_stateOf 17 = .ok (.goto 4, 3) := by decide +kernel
theorem dC_stateOf_20 : decode bC_stateOf 20 = .ok (.iconst 1, 1) := by decide +kernel
theorem dC_stateOf_21 : decode bC_stateOf 21 = .ok (.ireturn, 1) := by decide +kernel
theorem dC_moveOn_0 : decode bC_moveOn 0 = .ok (.aload_n 1, 1) := by decide +kernel
theorem dC_moveOn_1 : decode bC_moveOn 1 = .ok (.getfield 185, 3) := by decide +kernel
theorem dC_moveOn_4 : decode bC_moveOn 4 = .ok (.astore_n 2, 1) := by decide +kernel
theorem dC_moveOn_5 : decode bC_moveOn 5 = .ok (.aload_n 2, 1) := by decide +kernel
theorem dC_moveOn_6 : decode bC_moveOn 6 = .ok (.getfield 170, 3) := by decide +kernel
theorem dC_moveOn_9 : decode bC_moveOn 9 = .ok (.iconst 3, 1) := by decide +kernel
theorem dC_moveOn_10 : decode bC_moveOn 10 = .ok (.if_icmp .lt 21, 3) := by decide +kernel
theorem dC_moveOn_13 : decode bC_moveOn 13 = .ok (.aload_n 1, 1) := by decide +kernel
theorem dC_moveOn_14 : decode bC_moveOn 14 = .ok (.aconst_null, 1) := by decide +kernel
theorem dC_moveOn_15 : decode bC_moveOn 15 = .ok (.aload_n 2, 1) := by decide +kernel
theorem dC_moveOn_16 : decode bC_moveOn 16 = .ok (.getfield 55, 3) := by decide +kernel
theorem dC_moveOn_19 : decode bC_moveOn 19 = .ok (.aload_n 1, 1) := by decide +kernel
theorem dC_moveOn_20 : decode bC_moveOn 20 = .ok (.getfield 138, 3) := by decide +kernel
theorem dC_moveOn_23 : decode bC_moveOn 23 = .ok (.invokestatic 141, 3) := by decide +kernel
theorem dC_moveOn_26 : decode bC_moveOn 26 = .ok (.invokestatic 124, 3) := by decide +kernel
theorem dC_moveOn_29 : decode bC_moveOn 29 = .ok (.iconst 1, 1) := by decide +kernel
theorem dC_moveOn_30 : decode bC_moveOn 30 = .ok (.ireturn, 1) := by decide +kernel
theorem dC_moveOn_31 : decode bC_moveOn 31 = .ok (.aload_n 0, 1) := by decide +kernel
theorem dC_moveOn_32 : decode bC_moveOn 32 = .ok (.aload_n 2, 1) := by decide +kernel
theorem dC_moveOn_33 : decode bC_moveOn 33 = .ok (.invokevirtual 186, 3) := by decide +kernel
theorem dC_moveOn_36 : decode bC_moveOn 36 = .ok (.astore_n 3, 1) := by decide +kernel
theorem dC_moveOn_37 : decode bC_moveOn 37 = .ok (.aload_n 3, 1) := by decide +kernel
theorem dC_moveOn_38 : decode bC_moveOn 38 = .ok (.ifnonnull 9, 3) := by decide +kernel
theorem dC_moveOn_41 : decode bC_moveOn 41 = .ok (.aload_n 0, 1) := by decide +kernel
theorem dC_moveOn_42 : decode bC_moveOn 42 = .ok (.aload_n 2, 1) := by decide +kernel
theorem dC_moveOn_43 : decode bC_moveOn 43 = .ok (.invokevirtual 190, 3) := by decide +kernel
theorem dC_moveOn_46 : decode bC_moveOn 46 = .ok (.astore_n 3, 1) := by decide +kernel
theorem dC_moveOn_47 : decode bC_moveOn 47 = .ok (.aload_n 3, 1) := by decide +kernel
theorem dC_moveOn_48 : decode bC_moveOn 48 = .ok (.ifnonnull 5, 3) := by decide +kernel
theorem dC_moveOn_51 : decode bC_moveOn 51 = .ok (.iconst 0, 1) := by decide +kernel
theorem dC_moveOn_52 : decode bC_moveOn 52 = .ok (.ireturn, 1) := by decide +kernel
theorem dC_moveOn_53 : decode bC_moveOn 53 = .ok (.aload_n 1, 1) := by decide +kernel
theorem dC_moveOn_54 : decode bC_moveOn 54 = .ok (.aload_n 3, 1) := by decide +kernel
theorem dC_moveOn_55 : decode bC_moveOn 55 = .ok (.invokestatic 193, 3) := by decide +kernel
theorem dC_moveOn_58 : decode bC_moveOn 58 = .ok (.iconst 1, 1) := by decide +kernel
theorem dC_moveOn_59 : decode bC_moveOn 59 = .ok (.ireturn, 1) := by decide +kernel
theorem dC_firstFree_0 : decode bC_firstFree 0 = .ok (.aload_n 0, 1) := by decide +kernel
theorem dC_firstFree_1 : decode bC_firstFree 1 = .ok (.getfield 17, 3) := by decide +kernel
theorem dC_firstFree_4 : decode bC_firstFree 4 = .ok (.astore_n 2, 1) := by decide +kernel
theorem dC_firstFree_5 : decode bC_firstFree 5 = .ok (.aload_n 2, 1) := by decide +kernel
theorem dC_firstFree_6 : decode bC_firstFree 6 = .ok (.arraylength, 1) := by decide +kernel
theorem dC_firstFree_7 : decode bC_firstFree 7 = .ok (.istore_n 3, 1) := by decide +kernel
theorem dC_firstFree_8 : decode bC_firstFree 8 = .ok (.iconst 0, 1) := by decide +kernel
theorem dC_firstFree_9 : decode bC_firstFree 9 = .ok (.istore 4, 2) := by decide +kernel
theorem dC_firstFree_11 : decode bC_firstFree 11 = .ok (.iload 4, 2) := by decide +kernel
theorem dC_firstFree_13 : decode bC_firstFree 13 = .ok (.iload_n 3, 1) := by decide +kernel
theorem dC_firstFree_14 : decode bC_firstFree 14 = .ok (.if_icmp .ge 40, 3) := by decide +kernel
theorem dC_firstFree_17 : decode bC_firstFree 17 = .ok (.aload_n 2, 1) := by decide +kernel
theorem dC_firstFree_18 : decode bC_firstFree 18 = .ok (.iload 4, 2) := by decide +kernel
theorem dC_firstFree_20 : decode bC_firstFree 20 = .ok (.aaload, 1) := by decide +kernel
theorem dC_firstFree_21 : decode bC_firstFree 21 = .ok (.astore 5, 2) := by decide +kernel
theorem dC_firstFree_23 : decode bC_firstFree 23 = .ok (.aload 5, 2) := by decide +kernel
theorem dC_firstFree_25 : decode bC_firstFree 25 = .ok (.ifnull 23, 3) := by decide +kernel
theorem dC_firstFree_28 : decode bC_firstFree 28 = .ok (.aload 5, 2) := by decide +kernel
theorem dC_firstFree_30 : decode bC_firstFree 30 = .ok (.getfield 59, 3) := by decide +kernel
theorem dC_firstFree_33 : decode bC_firstFree 33 = .ok (.aload_n 1, 1) := by decide +kernel
theorem dC_firstFree_34 : decode bC_firstFree 34 = .ok (.if_acmp .ne 14, 3) := by decide +kernel
theorem dC_firstFree_37 : decode bC_firstFree 37 = .ok (.aload 5, 2) := by decide +kernel
theorem dC_firstFree_39 : decode bC_firstFree 39 = .ok (.invokestatic 146, 3) := by decide +kernel
theorem dC_firstFree_42 : decode bC_firstFree 42 = .ok (.ifCond .ne 6, 3) := by decide +kernel
theorem dC_firstFree_45 : decode bC_firstFree 45 = .ok (.aload 5, 2) := by decide +kernel
theorem dC_firstFree_47 : decode bC_firstFree 47 = .ok (.areturn, 1) := by decide +kernel
theorem dC_firstFree_48 : decode bC_firstFree 48 = .ok (.iinc 4 1, 3) := by decide +kernel
theorem dC_firstFree_51 : decode bC_firstFree 51 = .ok (.goto (-40), 3) := by decide +kernel
theorem dC_firstFree_54 : decode bC_firstFree 54 = .ok (.aconst_null, 1) := by decide +kernel
theorem dC_firstFree_55 : decode bC_firstFree 55 = .ok (.areturn, 1) := by decide +kernel
theorem dC_startWorker_0 : decode bC_startWorker 0 = .ok (.aload_n 0, 1) := by decide +kernel
theorem dC_startWorker_1 : decode bC_startWorker 1 = .ok (.getfield 197, 3) := by decide +kernel
theorem dC_startWorker_4 : decode bC_startWorker 4 = .ok (.aload_n 0, 1) := by decide +kernel
theorem dC_startWorker_5 : decode bC_startWorker 5 = .ok (.getfield 17, 3) := by decide +kernel
theorem dC_startWorker_8 : decode bC_startWorker 8 = .ok (.arraylength, 1) := by decide +kernel
theorem dC_startWorker_9 : decode bC_startWorker 9 = .ok (.if_icmp .ge 15, 3) := by decide +kernel
theorem dC_startWorker_12 : decode bC_startWorker 12 = .ok (.aload_n 0, 1) := by decide +kernel
theorem dC_startWorker_13 : decode bC_startWorker 13 = .ok (.aload_n 1, 1) := by decide +kernel
theorem dC_startWorker_14 : decode bC_startWorker 14 = .ok (.invokevirtual 200, 3) := by decide +kernel
theorem dC_startWorker_17 : decode bC_startWorker 17 = .ok (.aload_n 0, 1) := by decide +kernel
theorem dC_startWorker_18 : decode bC_startWorker 18 = .ok (.getfield 31, 3) := by decide +kernel
theorem dC_startWorker_21 : decode bC_startWorker 21 = .ok (.if_icmp .lt 5, 3) := by decide +kernel
theorem dC_startWorker_24 : decode bC_startWorker 24 = .ok (.aconst_null, 1) := by decide +kernel
theorem dC_startWorker_25 : decode bC_startWorker 25 = .ok (.areturn, 1) := by decide +kernel
theorem dC_startWorker_26 : decode bC_startWorker 26 = .ok (.new 15, 3) := by decide +kernel
theorem dC_startWorker_29 : decode bC_startWorker 29 = .ok (.dup, 1) := by decide +kernel
theorem dC_startWorker_30 : decode bC_startWorker 30 = .ok (.aload_n 0, 1) := by decide +kernel
theorem dC_startWorker_31 : decode bC_startWorker 31 = .ok (.getfield 197, 3) := by decide +kernel
theorem dC_startWorker_34 : decode bC_startWorker 34 = .ok (.aload_n 1, 1) := by decide +kernel
theorem dC_startWorker_35 : decode bC_startWorker 35 = .ok (.invokespecial 204, 3) := by decide +kernel
theorem dC_startWorker_38 : decode bC_startWorker 38 = .ok (.astore_n 2, 1) := by decide +kernel
theorem dC_startWorker_39 : decode bC_startWorker 39 = .ok (.aload_n 0, 1) := by decide +kernel
theorem dC_startWorker_40 : decode bC_startWorker 40 = .ok (.getfield 17, 3) := by decide +kernel
theorem dC_startWorker_43 : decode bC_startWorker 43 = .ok (.aload_n 0, 1) := by decide +kernel
theorem dC_startWorker_44 : decode bC_startWorker 44 = .ok (.getfield 197, 3) := by decide +kernel
theorem dC_startWorker_47 : decode bC_startWorker 47 = .ok (.aload_n 2, 1) := by decide +kernel
theorem dC_startWorker_48 : decode bC_startWorker 48 = .ok (.aastore, 1) := by decide +kernel
theorem dC_startWorker_49 : decode bC_startWorker 49 = .ok (.aload_n 0, 1) := by decide +kernel
theorem dC_startWorker_50 : decode bC_startWorker 50 = .ok (.dup, 1) := by decide +kernel
theorem dC_startWorker_51 : decode bC_startWorker 51 = .ok (.getfield 197, 3) := by decide +kernel
theorem dC_startWorker_54 : decode bC_startWorker 54 = .ok (.iconst 1, 1) := by decide +kernel
theorem dC_startWorker_55 : decode bC_startWorker 55 = .ok (.iadd, 1) := by decide +kernel
theorem dC_startWorker_56 : decode bC_startWorker 56 = .ok (.putfield 197, 3) := by decide +kernel
theorem dC_startWorker_59 : decode bC_startWorker 59 = .ok (.aload_n 2, 1) := by decide +kernel
theorem dC_startWorker_60 : decode bC_startWorker 60 = .ok (.areturn, 1) := by decide +kernel
theorem dC_countStaying_0 : decode bC_countStaying 0 = .ok (.iconst 0, 1) := by decide +kernel
theorem dC_countStaying_1 : decode bC_countStaying 1 = .ok (.istore_n 2, 1) := by decide +kernel
theorem dC_countStaying_2 : decode bC_countStaying 2 = .ok (.aload_n 0, 1) := by decide +kernel
theorem dC_countStaying_3 : decode bC_countStaying 3 = .ok (.getfield 17, 3) := by decide +kernel
theorem dC_countStaying_6 : decode bC_countStaying 6 = .ok (.astore_n 3, 1) := by decide +kernel
theorem dC_countStaying_7 : decode bC_countStaying 7 = .ok (.aload_n 3, 1) := by decide +kernel
theorem dC_countStaying_8 : decode bC_countStaying 8 = .ok (.arraylength, 1) := by decide +kernel
theorem dC_countStaying_9 : decode bC_countStaying 9 = .ok (.istore 4, 2) := by decide +kernel
theorem dC_countStaying_11 : decode bC_countStaying 11 = .ok (.iconst 0, 1) := by decide +kernel
theorem dC_countStaying_12 : decode bC_countStaying 12 = .ok (.istore 5, 2) := by decide +kernel
theorem dC_countStaying_14 : decode bC_countStaying 14 = .ok (.iload 5, 2) := by decide +kernel
theorem dC_countStaying_16 : decode bC_countStaying 16 = .ok (.iload 4, 2) := by decide +kernel
theorem dC_countStaying_18 : decode bC_countStaying 18 = .ok (.if_icmp .ge 40, 3) := by decide +kernel
theorem dC_countStaying_21 : decode bC_countStaying 21 = .ok (.aload_n 3, 1) := by decide +kernel
theorem dC_countStaying_22 : decode bC_countStaying 22 = .ok (.iload 5, 2) := by decide +kernel
theorem dC_countStaying_24 : decode bC_countStaying 24 = .ok (.aaload, 1) := by decide +kernel
theorem dC_countStaying_25 : decode bC_countStaying 25 = .ok (.astore 6, 2) := by decide +kernel
theorem dC_countStaying_27 : decode bC_countStaying 27 = .ok (.aload 6, 2) := by decide +kernel
theorem dC_countStaying_29 : decode bC_countStaying 29 = .ok (.ifnull 23, 3) := by decide +kernel
theorem dC_countStaying_32 : decode bC_countStaying 32 = .ok (.aload 6, 2) := by decide +kernel
theorem dC_countStaying_34 : decode bC_countStaying 34 = .ok (.getfield 59, 3) := by decide +kernel
theorem dC_countStaying_37 : decode bC_countStaying 37 = .ok (.aload_n 1, 1) := by decide +kernel
theorem dC_countStaying_38 : decode bC_countStaying 38 = .ok (.if_acmp .ne 14, 3) := by decide +kernel
theorem dC_countStaying_41 : decode bC_countStaying 41 = .ok (.aload 6, 2) := by decide +kernel
theorem dC_countStaying_43 : decode bC_countStaying 43 = .ok (.invokestatic 63, 3) := by decide +kernel
theorem dC_countStaying_46 : decode bC_countStaying 46 = .ok (.ifCond .ne 6, 3) := by decide +kernel
theorem dC_countStaying_49 : decode bC_countStaying 49 = .ok (.iinc 2 1, 3) := by decide +kernel
theorem dC_countStaying_52 : decode bC_countStaying 52 = .ok (.iinc 5 1, 3) := by decide +kernel
theorem dC_countStaying_55 : decode bC_countStaying 55 = .ok (.goto (-41), 3) := by decide +kernel
theorem dC_countStaying_58 : decode bC_countStaying 58 = .ok (.iload_n 2, 1) := by decide +kernel
theorem dC_countStaying_59 : decode bC_countStaying 59 = .ok (.ireturn, 1) := by decide +kernel
theorem dC_beginWith_0 : decode bC_beginWith 0 = .ok (.aload_n 1, 1) := by decide +kernel
theorem dC_beginWith_1 : decode bC_beginWith 1 = .ok (.aload_n 0, 1) := by decide +kernel
theorem dC_beginWith_2 : decode bC_beginWith 2 = .ok (.putfield 104, 3) := by decide +kernel
theorem dC_beginWith_5 : decode bC_beginWith 5 = .ok (.aload_n 0, 1) := by decide +kernel
theorem dC_beginWith_6 : decode bC_beginWith 6 = .ok (.aload_n 1, 1) := by decide +kernel
theorem dC_beginWith_7 : decode bC_beginWith 7 = .ok (.putfield 150, 3) := by decide +kernel
theorem dC_beginWith_10 : decode bC_beginWith 10 = .ok (.aload_n 0, 1) := by decide +kernel
theorem dC_beginWith_11 : decode bC_beginWith 11 = .ok (.iconst 1, 1) := by decide +kernel
theorem dC_beginWith_12 : decode bC_beginWith 12 = .ok (.putfield 85, 3) := by decide +kernel
theorem dC_beginWith_15 : decode bC_beginWith 15 = .ok (.aload_n 0, 1) := by decide +kernel
theorem dC_beginWith_16 : decode bC_beginWith 16 = .ok (.dup, 1) := by decide +kernel
theorem dC_beginWith_17 : decode bC_beginWith 17 = .ok (.getfield 174, 3) := by decide +kernel
theorem dC_beginWith_20 : decode bC_beginWith 20 = .ok (.iconst 1, 1) := by decide +kernel
theorem dC_beginWith_21 : decode bC_beginWith 21 = .ok (.iadd, 1) := by decide +kernel
theorem dC_beginWith_22 : decode bC_beginWith 22 = .ok (.putfield 174, 3) := by decide +kernel
theorem dC_beginWith_25 : decode bC_beginWith 25 = .ok (.return_, 1) := by decide +kernel
theorem dC_leaveDone_0 : decode bC_leaveDone 0 = .ok (.aload_n 0, 1) := by decide +kernel
theorem dC_leaveDone_1 : decode bC_leaveDone 1 = .ok (.getfield 92, 3) := by decide +kernel
theorem dC_leaveDone_4 : decode bC_leaveDone 4 = .ok (.ifCond .eq 8, 3) := by decide +kernel
theorem dC_leaveDone_7 : decode bC_leaveDone 7 = .ok (.aload_n 0, 1) := by decide +kernel
theorem dC_leaveDone_8 : decode bC_leaveDone 8 = .ok (.invokestatic 88, 3) := by decide +kernel
theorem dC_leaveDone_11 : decode bC_leaveDone 11 = .ok (.return_, 1) := by decide +kernel
theorem dC_leaveDone_12 : decode bC_leaveDone 12 = .ok (.aload_n 0, 1) := by decide +kernel
theorem dC_leaveDone_13 : decode bC_leaveDone 13 = .ok (.iconst 2, 1) := by decide +kernel
theorem dC_leaveDone_14 : decode bC_leaveDone 14 = .ok (.putfield 85, 3) := by decide +kernel
theorem dC_leaveDone_17 : decode bC_leaveDone 17 = .ok (.aload_n 0, 1) := by decide +kernel
theorem dC_leaveDone_18 : decode bC_leaveDone 18 = .ok (.aload_n 1, 1) := by decide +kernel
theorem dC_leaveDone_19 : decode bC_leaveDone 19 = .ok (.putfield 150, 3) := by decide +kernel
theorem dC_leaveDone_22 : decode bC_leaveDone 22 = .ok (.aload_n 0, 1) := by decide +kernel
theorem dC_leaveDone_23 : decode bC_leaveDone 23 = .ok (.lload_n 2, 1) := by decide +kernel
theorem dC_leaveDone_24 : decode bC_leaveDone 24 = .ok (.putfield 154, 3) := by decide +kernel
theorem dC_leaveDone_27 : decode bC_leaveDone 27 = .ok (.return_, 1) := by decide +kernel
theorem dC_waitAgain_0 : decode bC_waitAgain 0 = .ok (.aload_n 0, 1) := by decide +kernel
theorem dC_waitAgain_1 : decode bC_waitAgain 1 = .ok (.getfield 92, 3) := by decide +kernel
theorem dC_waitAgain_4 : decode bC_waitAgain 4 = .ok (.ifCond .eq 8, 3) := by decide +kernel
theorem dC_waitAgain_7 : decode bC_waitAgain 7 = .ok (.aload_n 0, 1) := by decide +kernel
theorem dC_waitAgain_8 : decode bC_waitAgain 8 = .ok (.invokestatic 88, 3) := by decide +kernel
theorem dC_waitAgain_11 : decode bC_waitAgain 11 = .ok (.return_, 1) := by decide +kernel
theorem dC_waitAgain_12 : decode bC_waitAgain 12 = .ok (.aload_n 0, 1) := by decide +kernel
theorem dC_waitAgain_13 : decode bC_waitAgain 13 = .ok (.iconst 0, 1) := by decide +kernel
theorem dC_waitAgain_14 : decode bC_waitAgain 14 = .ok (.putfield 85, 3) := by decide +kernel
theorem dC_waitAgain_17 : decode bC_waitAgain 17 = .ok (.aload_n 0, 1) := by decide +kernel
theorem dC_waitAgain_18 : decode bC_waitAgain 18 = .ok (.aconst_null, 1) := by decide +kernel
theorem dC_waitAgain_19 : decode bC_waitAgain 19 = .ok (.putfield 150, 3) := by decide +kernel
theorem dC_waitAgain_22 : decode bC_waitAgain 22 = .ok (.return_, 1) := by decide +kernel
theorem dC_becomeCancelled_0 : decode bC_becomeCancelled 0 = .ok (.aload_n 0, 1) := by decide +kernel
theorem dC_becomeCancelled_1 : decode bC_becomeCancelled 1 = .ok (.iconst 3, 1) := by decide +kernel
theorem dC_becomeCancelled_2 : decode bC_becomeCancelled 2 = .ok (.putfield 85, 3) := by decide +kernel
theorem dC_becomeCancelled_5 : decode bC_becomeCancelled 5 = .ok (.aload_n 0, 1) := by decide +kernel
theorem dC_becomeCancelled_6 : decode bC_becomeCancelled 6 = .ok (.aconst_null, 1) := by decide +kernel
theorem dC_becomeCancelled_7 : decode bC_becomeCancelled 7 = .ok (.putfield 150, 3) := by decide +kernel
theorem dC_becomeCancelled_10 : decode bC_becomeCancelled 10 = .ok (.aload_n 0, 1) := by decide +kernel
theorem dC_becomeCancelled_11 : decode bC_becomeCancelled 11 = .ok (.iconst 0, 1) := by decide +kernel
theorem dC_becomeCancelled_12 : decode bC_becomeCancelled 12 = .ok (.putfield 92, 3) := by decide +kernel
theorem dC_becomeCancelled_15 : decode bC_becomeCancelled 15 = .ok (.return_, 1) := by decide +kernel
theorem dC_endAndRequeue_0 : decode bC_endAndRequeue 0 = .ok (.aload_n 0, 1) := by decide +kernel
theorem dC_endAndRequeue_1 : decode bC_endAndRequeue 1 = .ok (.getfield 104, 3) := by decide +kernel
theorem dC_endAndRequeue_4 : decode bC_endAndRequeue 4 = .ok (.astore_n 2, 1) := by decide +kernel
theorem dC_endAndRequeue_5 : decode bC_endAndRequeue 5 = .ok (.aload_n 0, 1) := by decide +kernel
theorem dC_endAndRequeue_6 : decode bC_endAndRequeue 6 = .ok (.aconst_null, 1) := by decide +kernel
theorem dC_endAndRequeue_7 : decode bC_endAndRequeue 7 = .ok (.putfield 104, 3) := by decide +kernel
theorem dC_endAndRequeue_10 : decode bC_endAndRequeue 10 = .ok (.aload_n 0, 1) := by decide +kernel
theorem dC_endAndRequeue_11 : decode bC_endAndRequeue 11 = .ok (.iload_n 1, 1) := by decide +kernel
theorem dC_endAndRequeue_12 : decode bC_endAndRequeue 12 = .ok (.putfield 128, 3) := by decide +kernel
theorem dC_endAndRequeue_15 : decode bC_endAndRequeue 15 = .ok (.aload_n 2, 1) := by decide +kernel
theorem dC_endAndRequeue_16 : decode bC_endAndRequeue 16 = .ok (.ifnull 7, 3) := by decide +kernel
theorem dC_endAndRequeue_19 : decode bC_endAndRequeue 19 = .ok (.aload_n 2, 1) := by decide +kernel
theorem dC_endAndRequeue_20 : decode bC_endAndRequeue 20 = .ok (.invokestatic 207, 3) := by decide +kernel
theorem dC_endAndRequeue_23 : decode bC_endAndRequeue 23 = .ok (.return_, 1) := by decide +kernel
theorem dC_redoUntrusted_0 : decode bC_redoUntrusted 0 = .ok (.iconst 0, 1) := by decide +kernel
theorem dC_redoUntrusted_1 : decode bC_redoUntrusted 1 = .ok (.istore_n 3, 1) := by decide +kernel
theorem dC_redoUntrusted_2 : decode bC_redoUntrusted 2 = .ok (.aload_n 0, 1) := by decide +kernel
theorem dC_redoUntrusted_3 : decode bC_redoUntrusted 3 = .ok (.getfield 23, 3) := by decide +kernel
theorem dC_redoUntrusted_6 : decode bC_redoUntrusted 6 = .ok (.astore 4, 2) := by decide +kernel
theorem dC_redoUntrusted_8 : decode bC_redoUntrusted 8 = .ok (.aload 4, 2) := by decide +kernel
theorem dC_redoUntrusted_10 : decode bC_redoUntrusted 10 = .ok (.arraylength, 1) := by decide +kernel
theorem dC_redoUntrusted_11 : decode bC_redoUntrusted 11 = .ok (.istore 5, 2) := by decide +kernel
theorem dC_redoUntrusted_13 : decode bC_redoUntrusted 13 = .ok (.iconst 0, 1) := by decide +kernel
theorem dC_redoUntrusted_14 : decode bC_redoUntrusted 14 = .ok (.istore 6, 2) := by decide +kernel
theorem dC_redoUntrusted_16 : decode bC_redoUntrusted 16 = .ok (.iload 6, 2) := by decide +kernel
theorem dC_redoUntrusted_18 : decode bC_redoUntrusted 18 = .ok (.iload 5, 2) := by decide +kernel
theorem dC_redoUntrusted_20 : decode bC_redoUntrusted 20 = .ok (.if_icmp .ge 89, 3) := by decide +kernel
theorem dC_redoUntrusted_23 : decode bC_redoUntrusted 23 = .ok (.aload 4, 2) := by decide +kernel
theorem dC_redoUntrusted_25 : decode bC_redoUntrusted 25 = .ok (.iload 6, 2) := by decide +kernel
theorem dC_redoUntrusted_27 : decode bC_redoUntrusted 27 = .ok (.aaload, 1) := by decide +kernel
theorem dC_redoUntrusted_28 : decode bC_redoUntrusted 28 = .ok (.astore 7, 2) := by decide +kernel
theorem dC_redoUntrusted_30 : decode bC_redoUntrusted 30 = .ok (.aload 7, 2) := by decide +kernel
theorem dC_redoUntrusted_32 : decode bC_redoUntrusted 32 = .ok (.ifnull 71, 3) := by decide +kernel
theorem dC_redoUntrusted_35 : decode bC_redoUntrusted 35 = .ok (.aload 7, 2) := by decide +kernel
theorem dC_redoUntrusted_37 : decode bC_redoUntrusted 37 = .ok (.getfield 85, 3) := by decide +kernel
theorem dC_redoUntrusted_40 : decode bC_redoUntrusted 40 = .ok (.iconst 2, 1) := by decide +kernel
theorem dC_redoUntrusted_41 : decode bC_redoUntrusted 41 = .ok (.if_icmp .ne 62, 3) := by decide +kernel
theorem dC_redoUntrusted_44 : decode bC_redoUntrusted 44 = .ok (.aload 7, 2) := by decide +kernel
theorem dC_redoUntrusted_46 : decode bC_redoUntrusted 46 = .ok (.getfield 150, 3) := by decide +kernel
theorem dC_redoUntrusted_49 : decode bC_redoUntrusted 49 = .ok (.aload_n 2, 1) := by decide +kernel
theorem dC_redoUntrusted_50 : decode bC_redoUntrusted 50 = .ok (.if_acmp .ne 53, 3) := by decide +kernel
theorem dC_redoUntrusted_53 : decode bC_redoUntrusted 53 = .ok (.aload 7, 2) := by decide +kernel
theorem dC_redoUntrusted_55 : decode bC_redoUntrusted 55 = .ok (.aload_n 1, 1) := by decide +kernel
theorem dC_redoUntrusted_56 : decode bC_redoUntrusted 56 = .ok (.if_acmp .eq 15, 3) := by decide +kernel
theorem dC_redoUntrusted_59 : decode bC_redoUntrusted 59 = .ok (.aload 7, 2) := by decide +kernel
theorem dC_redoUntrusted_61 : decode bC_redoUntrusted 61 = .ok (.getfield 121, 3) := by decide +kernel
theorem dC_redoUntrusted_64 : decode bC_redoUntrusted 64 = .ok (.aload_n 2, 1) := by decide +kernel
theorem dC_redoUntrusted_65 : decode bC_redoUntrusted 65 = .ok (.getfield 157, 3) := by decide +kernel
theorem dC_redoUntrusted_68 : decode bC_redoUntrusted 68 = .ok (.if_icmp .le 35, 3) := by decide +kernel
theorem dC_redoUntrusted_71 : decode bC_redoUntrusted 71 = .ok (.aload 7, 2) := by decide +kernel
theorem dC_redoUntrusted_73 : decode bC_redoUntrusted 73 = .ok (.aload_n 2, 1) := by decide +kernel
theorem dC_redoUntrusted_74 : decode bC_redoUntrusted 74 = .ok (.getfield 137, 3) := by decide +kernel
theorem dC_redoUntrusted_77 : decode bC_redoUntrusted 77 = .ok (.aload 7, 2) := by decide +kernel
theorem dC_redoUntrusted_79 : decode bC_redoUntrusted 79 = .ok (.getfield 138, 3) := by decide +kernel
theorem dC_redoUntrusted_82 : decode bC_redoUntrusted 82 = .ok (.invokestatic 141, 3) := by decide +kernel
theorem dC_redoUntrusted_85 : decode bC_redoUntrusted 85 = .ok (.putfield 154, 3) := by decide +kernel
theorem dC_redoUntrusted_88 : decode bC_redoUntrusted 88 = .ok (.aload 7, 2) := by decide +kernel
theorem dC_redoUntrusted_90 : decode bC_redoUntrusted 90 = .ok (.aconst_null, 1) := by decide +kernel
theorem dC_redoUntrusted_91 : decode bC_redoUntrusted 91 = .ok (.putfield 150, 3) := by decide +kernel
theorem dC_redoUntrusted_94 : decode bC_redoUntrusted 94 = .ok (.aload 7, 2) := by decide +kernel
theorem dC_redoUntrusted_96 : decode bC_redoUntrusted 96 = .ok (.iconst 1, 1) := by decide +kernel
theorem dC_redoUntrusted_97 : decode bC_redoUntrusted 97 = .ok (.putfield 177, 3) := by decide +kernel
theorem dC_redoUntrusted_100 : decode bC_redoUntrusted 100 = .ok (.iinc 3 1, 3) := by decide +kernel
theorem dC_redoUntrusted_103 : decode bC_redoUntrusted 103 = .ok (.iinc 6 1, 3) := by decide +kernel
theorem dC_redoUntrusted_106 : decode bC_redoUntrusted 106 = .ok (.goto (-90), 3) := by decide +kernel
theorem dC_redoUntrusted_109 : decode bC_redoUntrusted 109 = .ok (.iload_n 3, 1) := by decide +kernel
theorem dC_redoUntrusted_110 : decode bC_redoUntrusted 110 = .ok (.ireturn, 1) := by decide +kernel
theorem dR_init_0 : decode bR_init 0 = .ok (.aload_n 0, 1) := by decide +kernel
theorem dR_init_1 : decode bR_init 1 = .ok (.invokespecial 1, 3) := by decide +kernel
theorem dR_init_4 : decode bR_init 4 = .ok (.aload_n 0, 1) := by decide +kernel
theorem dR_init_5 : decode bR_init 5 = .ok (.iload_n 1, 1) := by decide +kernel
theorem dR_init_6 : decode bR_init 6 = .ok (.putfield 7, 3) := by decide +kernel
theorem dR_init_9 : decode bR_init 9 = .ok (.aload_n 0, 1) := by decide +kernel
theorem dR_init_10 : decode bR_init 10 = .ok (.aload_n 2, 1) := by decide +kernel
theorem dR_init_11 : decode bR_init 11 = .ok (.putfield 13, 3) := by decide +kernel
theorem dR_init_14 : decode bR_init 14 = .ok (.aload_n 0, 1) := by decide +kernel
theorem dR_init_15 : decode bR_init 15 = .ok (.lload_n 3, 1) := by decide +kernel
theorem dR_init_16 : decode bR_init 16 = .ok (.putfield 17, 3) := by decide +kernel
theorem dR_init_19 : decode bR_init 19 = .ok (.aload_n 0, 1) := by decide +kernel
theorem dR_init_20 : decode bR_init 20 = .ok (.iload 5, 2) := by decide +kernel
theorem dR_init_22 : decode bR_init 22 = .ok (.putfield 21, 3) := by decide +kernel
theorem dR_init_25 : decode bR_init 25 = .ok (.return_, 1) := by decide +kernel
theorem dT_init_0 : decode bT_init 0 = .ok (.aload_n 0, 1) := by decide +kernel
theorem dT_init_1 : decode bT_init 1 = .ok (.invokespecial 1, 3) := by decide +kernel
theorem dT_init_4 : decode bT_init 4 = .ok (.aload_n 0, 1) := by decide +kernel
theorem dT_init_5 : decode bT_init 5 = .ok (.iload_n 1, 1) := by decide +kernel
theorem dT_init_6 : decode bT_init 6 = .ok (.putfield 7, 3) := by decide +kernel
theorem dT_init_9 : decode bT_init 9 = .ok (.aload_n 0, 1) := by decide +kernel
theorem dT_init_10 : decode bT_init 10 = .ok (.lload_n 2, 1) := by decide +kernel
theorem dT_init_11 : decode bT_init 11 = .ok (.putfield 13, 3) := by decide +kernel
theorem dT_init_14 : decode bT_init 14 = .ok (.aload_n 0, 1) := by decide +kernel
theorem dT_init_15 : decode bT_init 15 = .ok (.iload 4, 2) := by decide +kernel
theorem dT_init_17 : decode bT_init 17 = .ok (.putfield 17, 3) := by decide +kernel
theorem dT_init_20 : decode bT_init 20 = .ok (.return_, 1) := by decide +kernel
theorem dW_init_0 : decode bW_init 0 = .ok (.aload_n 0, 1) := by decide +kernel
theorem dW_init_1 : decode bW_init 1 = .ok (.invokespecial 1, 3) := by decide +kernel
theorem dW_init_4 : decode bW_init 4 = .ok (.aload_n 0, 1) := by decide +kernel
theorem dW_init_5 : decode bW_init 5 = .ok (.iload_n 1, 1) := by decide +kernel
theorem dW_init_6 : decode bW_init 6 = .ok (.putfield 7, 3) := by decide +kernel
theorem dW_init_9 : decode bW_init 9 = .ok (.aload_n 0, 1) := by decide +kernel
theorem dW_init_10 : decode bW_init 10 = .ok (.aload_n 2, 1) := by decide +kernel
theorem dW_init_11 : decode bW_init 11 = .ok (.putfield 13, 3) := by decide +kernel
theorem dW_init_14 : decode bW_init 14 = .ok (.aload_n 0, 1) := by decide +kernel
theorem dW_init_15 : decode bW_init 15 = .ok (.aload_n 2, 1) := by decide +kernel
theorem dW_init_16 : decode bW_init 16 = .ok (.getfield 17, 3) := by decide +kernel
theorem dW_init_19 : decode bW_init 19 = .ok (.putfield 23, 3) := by decide +kernel
theorem dW_init_22 : decode bW_init 22 = .ok (.return_, 1) := by decide +kernel
end
section
theorem dM_init_0 : decode bM_init 0 = .ok (.aload_n 0, 1) := by decide +kernel
theorem dM_init_1 : decode bM_init 1 = .ok (.invokespecial 1, 3) := by decide +kernel
theorem dM_init_4 : decode bM_init 4 = .ok (.aload_n 0, 1) := by decide +kernel
theorem dM_init_5 : decode bM_init 5 = .ok (.bipush 6, 2) := by decide +kernel
theorem dM_init_7 : decode bM_init 7 = .ok (.newarray .long, 2) := by decide +kernel
theorem dM_init_9 : decode bM_init 9 = .ok (.putfield 7, 3) := by decide +kernel
theorem dM_init_12 : decode bM_init 12 = .ok (.aload_n 0, 1) := by decide +kernel
theorem dM_init_13 : decode bM_init 13 = .ok (.bipush 6, 2) := by decide +kernel
theorem dM_init_15 : decode bM_init 15 = .ok (.newarray .int, 2) := by decide +kernel
theorem dM_init_17 : decode bM_init 17 = .ok (.putfield 13, 3) := by decide +kernel
theorem dM_init_20 : decode bM_init 20 = .ok (.aload_n 0, 1) := by decide +kernel
theorem dM_init_21 : decode bM_init 21 = .ok (.bipush 6, 2) := by decide +kernel
theorem dM_init_23 : decode bM_init 23 = .ok (.newarray .int, 2) := by decide +kernel
theorem dM_init_25 : decode bM_init 25 = .ok (.putfield 17, 3) := by decide +kernel
theorem dM_init_28 : decode bM_init 28 = .ok (.aload_n 0, 1) := by decide +kernel
theorem dM_init_29 : decode bM_init 29 = .ok (.bipush 60, 2) := by decide +kernel
theorem dM_init_31 : decode bM_init 31 = .ok (.newarray .int, 2) := by decide +kernel
theorem dM_init_33 : decode bM_init 33 = .ok (.putfield 20, 3) := by decide +kernel
theorem dM_init_36 : decode bM_init 36 = .ok (.aload_n 0, 1) := by decide +kernel
theorem dM_init_37 : decode bM_init 37 = .ok (.bipush 60, 2) := by decide +kernel
theorem dM_init_39 : decode bM_init 39 = .ok (.newarray .int, 2) := by decide +kernel
theorem dM_init_41 : decode bM_init 41 = .ok (.putfield 23, 3) := by decide +kernel
theorem dM_init_44 : decode bM_init 44 = .ok (.aload_n 0, 1) := by decide +kernel
theorem dM_init_45 : decode bM_init 45 = .ok (.bipush 60, 2) := by decide +kernel
theorem dM_init_47 : decode bM_init 47 = .ok (.newarray .int, 2) := by decide +kernel
theorem dM_init_49 : decode bM_init 49 = .ok (.putfield 26, 3) := by decide +kernel
theorem dM_init_52 : decode bM_init 52 = .ok (.aload_n 0, 1) := by decide +kernel
theorem dM_init_53 : decode bM_init 53 = .ok (.bipush 60, 2) := by decide +kernel
theorem dM_init_55 : decode bM_init 55 = .ok (.newarray .int, 2) := by decide +kernel
theorem dM_init_57 : decode bM_init 57 = .ok (.putfield 29, 3) := by decide +kernel
theorem dM_init_60 : decode bM_init 60 = .ok (.aload_n 0, 1) := by decide +kernel
theorem dM_init_61 : decode bM_init 61 = .ok (.bipush 60, 2) := by decide +kernel
theorem dM_init_63 : decode bM_init 63 = .ok (.newarray .int, 2) := by decide +kernel
theorem dM_init_65 : decode bM_init 65 = .ok (.putfield 32, 3) := by decide +kernel
theorem dM_init_68 : decode bM_init 68 = .ok (.aload_n 0, 1) := by decide +kernel
theorem dM_init_69 : decode bM_init 69 = .ok (.bipush 60, 2) := by decide +kernel
theorem dM_init_71 : decode bM_init 71 = .ok (.newarray .int, 2) := by decide +kernel
theorem dM_init_73 : decode bM_init 73 = .ok (.putfield 35, 3) := by decide +kernel
theorem dM_init_76 : decode bM_init 76 = .ok (.aload_n 0, 1) := by decide +kernel
theorem dM_init_77 : decode bM_init 77 = .ok (.bipush 60, 2) := by decide +kernel
theorem dM_init_79 : decode bM_init 79 = .ok (.newarray .int, 2) := by decide +kernel
theorem dM_init_81 : decode bM_init 81 = .ok (.putfield 38, 3) := by decide +kernel
theorem dM_init_84 : decode bM_init 84 = .ok (.aload_n 0, 1) := by decide +kernel
theorem dM_init_85 : decode bM_init 85 = .ok (.bipush 60, 2) := by decide +kernel
theorem dM_init_87 : decode bM_init 87 = .ok (.newarray .int, 2) := by decide +kernel
theorem dM_init_89 : decode bM_init 89 = .ok (.putfield 41, 3) := by decide +kernel
theorem dM_init_92 : decode bM_init 92 = .ok (.aload_n 0, 1) := by decide +kernel
theorem dM_init_93 : decode bM_init 93 = .ok (.bipush 60, 2) := by decide +kernel
theorem dM_init_95 : decode bM_init 95 = .ok (.newarray .long, 2) := by decide +kernel
theorem dM_init_97 : decode bM_init 97 = .ok (.putfield 44, 3) := by decide +kernel
theorem dM_init_100 : decode bM_init 100 = .ok (.aload_n 0, 1) := by decide +kernel
theorem dM_init_101 : decode bM_init 101 = .ok (.bipush 100, 2) := by decide +kernel
theorem dM_init_103 : decode bM_init 103 = .ok (.newarray .int, 2) := by decide +kernel
theorem dM_init_105 : decode bM_init 105 = .ok (.putfield 47, 3) := by decide +kernel
theorem dM_init_108 : decode bM_init 108 = .ok (.aload_n 0, 1) := by decide +kernel
theorem dM_init_109 : decode bM_init 109 = .ok (.bipush 100, 2) := by decide +kernel
theorem dM_init_111 : decode bM_init 111 = .ok (.newarray .int, 2) := by decide +kernel
theorem dM_init_113 : decode bM_init 113 = .ok (.putfield 50, 3) := by decide +kernel
theorem dM_init_116 : decode bM_init 116 = .ok (.aload_n 0, 1) := by decide +kernel
theorem dM_init_117 : decode bM_init 117 = .ok (.bipush 100, 2) := by decide +kernel
theorem dM_init_119 : decode bM_init 119 = .ok (.newarray .int, 2) := by decide +kernel
theorem dM_init_121 : decode bM_init 121 = .ok (.putfield 53, 3) := by decide +kernel
theorem dM_init_124 : decode bM_init 124 = .ok (.aload_n 0, 1) := by decide +kernel
theorem dM_init_125 : decode bM_init 125 = .ok (.bipush 100, 2) := by decide +kernel
theorem dM_init_127 : decode bM_init 127 = .ok (.newarray .int, 2) := by decide +kernel
theorem dM_init_129 : decode bM_init 129 = .ok (.putfield 56, 3) := by decide +kernel
theorem dM_init_132 : decode bM_init 132 = .ok (.aload_n 0, 1) := by decide +kernel
theorem dM_init_133 : decode bM_init 133 = .ok (.bipush 100, 2) := by decide +kernel
theorem dM_init_135 : decode bM_init 135 = .ok (.newarray .int, 2) := by decide +kernel
theorem dM_init_137 : decode bM_init 137 = .ok (.putfield 59, 3) := by decide +kernel
theorem dM_init_140 : decode bM_init 140 = .ok (.aload_n 0, 1) := by decide +kernel
theorem dM_init_141 : decode bM_init 141 = .ok (.bipush 100, 2) := by decide +kernel
theorem dM_init_143 : decode bM_init 143 = .ok (.newarray .int, 2) := by decide +kernel
theorem dM_init_145 : decode bM_init 145 = .ok (.putfield 62, 3) := by decide +kernel
theorem dM_init_148 : decode bM_init 148 = .ok (.aload_n 0, 1) := by decide +kernel
theorem dM_init_149 : decode bM_init 149 = .ok (.bipush 100, 2) := by decide +kernel
theorem dM_init_151 : decode bM_init 151 = .ok (.newarray .boolean, 2) := by decide +kernel
theorem dM_init_153 : decode bM_init 153 = .ok (.putfield 65, 3) := by decide +kernel
theorem dM_init_156 : decode bM_init 156 = .ok (.aload_n 0, 1) := by decide +kernel
theorem dM_init_157 : decode bM_init 157 = .ok (.bipush 100, 2) := by decide +kernel
theorem dM_init_159 : decode bM_init 159 = .ok (.newarray .boolean, 2) := by decide +kernel
theorem dM_init_161 : decode bM_init 161 = .ok (.putfield 69, 3) := by decide +kernel
theorem dM_init_164 : decode bM_init 164 = .ok (.aload_n 0, 1) := by decide +kernel
theorem dM_init_165 : decode bM_init 165 = .ok (.bipush 100, 2) := by decide +kernel
theorem dM_init_167 : decode bM_init 167 = .ok (.newarray .long, 2) := by decide +kernel
theorem dM_init_169 : decode bM_init 169 = .ok (.putfield 72, 3) := by decide +kernel
theorem dM_init_172 : decode bM_init 172 = .ok (.aload_n 0, 1) := by decide +kernel
theorem dM_init_173 : decode bM_init 173 = .ok (.bipush 100, 2) := by decide +kernel
theorem dM_init_175 : decode bM_init 175 = .ok (.newarray .long, 2) := by decide +kernel
theorem dM_init_177 : decode bM_init 177 = .ok (.putfield 75, 3) := by decide +kernel
theorem dM_init_180 : decode bM_init 180 = .ok (.aload_n 0, 1) := by decide +kernel
theorem dM_init_181 : decode bM_init 181 = .ok (.iload_n 1, 1) := by decide +kernel
theorem dM_init_182 : decode bM_init 182 = .ok (.iconst 1, 1) := by decide +kernel
theorem dM_init_183 : decode bM_init 183 = .ok (.iconst 4, 1) := by decide +kernel
theorem dM_init_184 : decode bM_init 184 = .ok (.invokestatic 78, 3) := by decide +kernel
theorem dM_init_187 : decode bM_init 187 = .ok (.putfield 82, 3) := by decide +kernel
theorem dM_init_190 : decode bM_init 190 = .ok (.aload_n 0, 1) := by decide +kernel
theorem dM_init_191 : decode bM_init 191 = .ok (.iload_n 2, 1) := by decide +kernel
theorem dM_init_192 : decode bM_init 192 = .ok (.iconst 0, 1) := by decide +kernel
theorem dM_init_193 : decode bM_init 193 = .ok (.ldc 86, 2) := by decide +kernel
theorem dM_init_195 : decode bM_init 195 = .ok (.invokestatic 78, 3) := by decide +kernel
theorem dM_init_198 : decode bM_init 198 = .ok (.putfield 87, 3) := by decide +kernel
theorem dM_init_201 : decode bM_init 201 = .ok (.aload_n 0, 1) := by decide +kernel
theorem dM_init_202 : decode bM_init 202 = .ok (.iload_n 3, 1) := by decide +kernel
theorem dM_init_203 : decode bM_init 203 = .ok (.iconst 1, 1) := by decide +kernel
theorem dM_init_204 : decode bM_init 204 = .ok (.sipush 1000, 3) := by decide +kernel
theorem dM_init_207 : decode bM_init 207 = .ok (.invokestatic 78, 3) := by decide +kernel
theorem dM_init_210 : decode bM_init 210 = .ok (.putfield 90, 3) := by decide +kernel
theorem dM_init_213 : decode bM_init 213 = .ok (.return_, 1) := by decide +kernel
theorem dM_between_0 : decode bM_between 0 = .ok (.iload_n 0, 1) := by decide +kernel
theorem dM_between_1 : decode bM_between 1 = .ok (.iload_n 1, 1) := by decide +kernel
theorem dM_between_2 : decode bM_between 2 = .ok (.if_icmp .ge 7, 3) := by decide +kernel
theorem dM_between_5 : decode bM_between 5 = .ok (.iload_n 1, 1) := by decide +kernel
theorem dM_between_6 : decode bM_between 6 = .ok (.goto 13, 3) := by decide +kernel
theorem dM_between_9 : decode bM_between 9 = .ok (.iload_n 0, 1) := by decide +kernel
theorem dM_between_10 : decode bM_between 10 = .ok (.iload_n 2, 1) := by decide +kernel
theorem dM_between_11 : decode bM_between 11 = .ok (.if_icmp .le 7, 3) := by decide +kernel
theorem dM_between_14 : decode bM_between 14 = .ok (.iload_n 2, 1) := by decide +kernel
theorem dM_between_15 : decode bM_between 15 = .ok (.goto 4, 3) := by decide +kernel
theorem dM_between_18 : decode bM_between 18 = .ok (.iload_n 0, 1) := by decide +kernel
theorem dM_between_19 : decode bM_between 19 = .ok (.ireturn, 1) := by decide +kernel
theorem dM_in_0 : decode bM_in 0 = .ok (.iload_n 0, 1) := by decide +kernel
theorem dM_in_1 : decode bM_in 1 = .ok (.ifCond .lt 12, 3) := by decide +kernel
theorem dM_in_4 : decode bM_in 4 = .ok (.iload_n 0, 1) := by decide +kernel
theorem dM_in_5 : decode bM_in 5 = .ok (.iload_n 1, 1) := by decide +kernel
theorem dM_in_6 : decode bM_in 6 = .ok (.if_icmp .ge 7, 3) := by decide +kernel
theorem dM_in_9 : decode bM_in 9 = .ok (.iconst 1, 1) := by decide +kernel
theorem dM_in_10 : decode bM_in 10 = .ok (.goto 4, 3) := by decide +kernel
theorem dM_in_13 : decode bM_in 13 = .ok (.iconst 0, 1) := by decide +kernel
theorem dM_in_14 : decode bM_in 14 = .ok (.ireturn, 1) := by decide +kernel
theorem dM_tool_0 : decode bM_tool 0 = .ok (.aload_n 0, 1) := by decide +kernel
theorem dM_tool_1 : decode bM_tool 1 = .ok (.getfield 93, 3) := by decide +kernel
theorem dM_tool_4 : decode bM_tool 4 = .ok (.bipush 6, 2) := by decide +kernel
theorem dM_tool_6 : decode bM_tool 6 = .ok (.if_icmp .ne 5, 3) := by decide +kernel
theorem dM_tool_9 : decode bM_tool 9 = .ok (.iconst (-1), 1) := by decide +kernel
theorem dM_tool_10 : decode bM_tool 10 = .ok (.ireturn, 1) := by decide +kernel
theorem dM_tool_11 : decode bM_tool 11 = .ok (.aload_n 0, 1) := by decide +kernel
theorem dM_tool_12 : decode bM_tool 12 = .ok (.getfield 7, 3) := by decide +kernel
theorem dM_tool_15 : decode bM_tool 15 = .ok (.aload_n 0, 1) := by decide +kernel
theorem dM_tool_16 : decode bM_tool 16 = .ok (.getfield 93, 3) := by decide +kernel
theorem dM_tool_19 : decode bM_tool 19 = .ok (.lload_n 1, 1) := by decide +kernel
theorem dM_tool_20 : decode bM_tool 20 = .ok (.lastore, 1) := by decide +kernel
theorem dM_tool_21 : decode bM_tool 21 = .ok (.aload_n 0, 1) := by decide +kernel
theorem dM_tool_22 : decode bM_tool 22 = .ok (.getfield 13, 3) := by decide +kernel
theorem dM_tool_25 : decode bM_tool 25 = .ok (.aload_n 0, 1) := by decide +kernel
theorem dM_tool_26 : decode bM_tool 26 = .ok (.getfield 93, 3) := by decide +kernel
theorem dM_tool_29 : decode bM_tool 29 = .ok (.iload_n 3, 1) := by decide +kernel
theorem dM_tool_30 : decode bM_tool 30 = .ok (.iastore, 1) := by decide +kernel
theorem dM_tool_31 : decode bM_tool 31 = .ok (.aload_n 0, 1) := by decide +kernel
theorem dM_tool_32 : decode bM_tool 32 = .ok (.getfield 17, 3) := by decide +kernel
theorem dM_tool_35 : decode bM_tool 35 = .ok (.aload_n 0, 1) := by decide +kernel
theorem dM_tool_36 : decode bM_tool 36 = .ok (.getfield 93, 3) := by decide +kernel
theorem dM_tool_39 : decode bM_tool 39 = .ok (.iconst 0, 1) := by decide +kernel
theorem dM_tool_40 : decode bM_tool 40 = .ok (.iastore, 1) := by decide +kernel
theorem dM_tool_41 : decode bM_tool 41 = .ok (.aload_n 0, 1) := by decide +kernel
theorem dM_tool_42 : decode bM_tool 42 = .ok (.dup, 1) := by decide +kernel
theorem dM_tool_43 : decode bM_tool 43 = .ok (.getfield 93, 3) := by decide +kernel
theorem dM_tool_46 : decode bM_tool 46 = .ok (.iconst 1, 1) := by decide +kernel
theorem dM_tool_47 : decode bM_tool 47 = .ok (.iadd, 1) := by decide +kernel
theorem dM_tool_48 : decode bM_tool 48 = .ok (.putfield 93, 3) := by decide +kernel
theorem dM_tool_51 : decode bM_tool 51 = .ok (.aload_n 0, 1) := by decide +kernel
theorem dM_tool_52 : decode bM_tool 52 = .ok (.getfield 93, 3) := by decide +kernel
theorem dM_tool_55 : decode bM_tool 55 = .ok (.iconst 1, 1) := by decide +kernel
theorem dM_tool_56 : decode bM_tool 56 = .ok (.isub, 1) := by decide +kernel
theorem dM_tool_57 : decode bM_tool 57 = .ok (.ireturn, 1) := by decide +kernel
theorem dM_quirk_0 : decode bM_quirk 0 = .ok (.iload_n 1, 1) := by decide +kernel
theorem dM_quirk_1 : decode bM_quirk 1 = .ok (.aload_n 0, 1) := by decide +kernel
theorem dM_quirk_2 : decode bM_quirk 2 = .ok (.getfield 93, 3) := by decide +kernel
theorem dM_quirk_5 : decode bM_quirk 5 = .ok (.invokestatic 96, 3) := by decide +kernel
theorem dM_quirk_8 : decode bM_quirk 8 = .ok (.ifCond .ne 5, 3) := by decide +kernel
theorem dM_quirk_11 : decode bM_quirk 11 = .ok (.iconst 0, 1) := by decide +kernel
theorem dM_quirk_12 : decode bM_quirk 12 = .ok (.ireturn, 1) := by decide +kernel
theorem dM_quirk_13 : decode bM_quirk 13 = .ok (.aload_n 0, 1) := by decide +kernel
theorem dM_quirk_14 : decode bM_quirk 14 = .ok (.getfield 13, 3) := by decide +kernel
theorem dM_quirk_17 : decode bM_quirk 17 = .ok (.iload_n 1, 1) := by decide +kernel
theorem dM_quirk_18 : decode bM_quirk 18 = .ok (.iload_n 2, 1) := by decide +kernel
theorem dM_quirk_19 : decode bM_quirk 19 = .ok (.iastore, 1) := by decide +kernel
theorem dM_quirk_20 : decode bM_quirk 20 = .ok (.iconst 1, 1) := by decide +kernel
theorem dM_quirk_21 : decode bM_quirk 21 = .ok (.ireturn, 1) := by decide +kernel
theorem dM_request_0 : decode bM_request 0 = .ok (.aload_n 0, 1) := by decide +kernel
theorem dM_request_1 : decode bM_request 1 = .ok (.getfield 100, 3) := by decide +kernel
theorem dM_request_4 : decode bM_request 4 = .ok (.bipush 100, 2) := by decide +kernel
theorem dM_request_6 : decode bM_request 6 = .ok (.if_icmp .eq 27, 3) := by decide +kernel
theorem dM_request_9 : decode bM_request 9 = .ok (.iload_n 1, 1) := by decide +kernel
theorem dM_request_10 : decode bM_request 10 = .ok (.aload_n 0, 1) := by decide +kernel
theorem dM_request_11 : decode bM_request 11 = .ok (.getfield 93, 3) := by decide +kernel
theorem dM_request_14 : decode bM_request 14 = .ok (.invokestatic 96, 3) := by decide +kernel
theorem dM_request_17 : decode bM_request 17 = .ok (.ifCond .eq 16, 3) := by decide +kernel
theorem dM_request_20 : decode bM_request 20 = .ok (.iload 4, 2) := by decide +kernel
theorem dM_request_22 : decode bM_request 22 = .ok (.ifCond .lt 11, 3) := by decide +kernel
theorem dM_request_25 : decode bM_request 25 = .ok (.iload 4, 2) := by decide +kernel
theorem dM_request_27 : decode bM_request 27 = .ok (.sipush 1000, 3) := by decide +kernel
theorem dM_request_30 : decode bM_request 30 = .ok (.if_icmp .le 5, 3) := by decide +kernel
theorem dM_request_33 : decode bM_request 33 = .ok (.iconst (-1), 1) := by decide +kernel
theorem dM_request_34 : decode bM_request 34 = .ok (.ireturn, 1) := by decide +kernel
theorem dM_request_35 : decode bM_request 35 = .ok (.aload_n 0, 1) := by decide +kernel
theorem dM_request_36 : decode bM_request 36 = .ok (.getfield 100, 3) := by decide +kernel
theorem dM_request_39 : decode bM_request 39 = .ok (.istore 5, 2) := by decide +kernel
theorem dM_request_41 : decode bM_request 41 = .ok (.aload_n 0, 1) := by decide +kernel
theorem dM_request_42 : decode bM_request 42 = .ok (.getfield 47, 3) := by decide +kernel
theorem dM_request_45 : decode bM_request 45 = .ok (.iload 5, 2) := by decide +kernel
theorem dM_request_47 : decode bM_request 47 = .ok (.iload_n 1, 1) := by decide +kernel
theorem dM_request_48 : decode bM_request 48 = .ok (.iastore, 1) := by decide +kernel
theorem dM_request_49 : decode bM_request 49 = .ok (.aload_n 0, 1) := by decide +kernel
theorem dM_request_50 : decode bM_request 50 = .ok (.getfield 72, 3) := by decide +kernel
theorem dM_request_53 : decode bM_request 53 = .ok (.iload 5, 2) := by decide +kernel
theorem dM_request_55 : decode bM_request 55 = .ok (.lload_n 2, 1) := by decide +kernel
theorem dM_request_56 : decode bM_request 56 = .ok (.lastore, 1) := by decide +kernel
theorem dM_request_57 : decode bM_request 57 = .ok (.aload_n 0, 1) := by decide +kernel
theorem dM_request_58 : decode bM_request 58 = .ok (.getfield 50, 3) := by decide +kernel
theorem dM_request_61 : decode bM_request 61 = .ok (.iload 5, 2) := by decide +kernel
theorem dM_request_63 : decode bM_request 63 = .ok (.iload 4, 2) := by decide +kernel
theorem dM_request_65 : decode bM_request 65 = .ok (.iastore, 1) := by decide +kernel
theorem dM_request_66 : decode bM_request 66 = .ok (.aload_n 0, 1) := by decide +kernel
theorem dM_request_67 : decode bM_request 67 = .ok (.getfield 53, 3) := by decide +kernel
theorem dM_request_70 : decode bM_request 70 = .ok (.iload 5, 2) := by decide +kernel
theorem dM_request_72 : decode bM_request 72 = .ok (.iconst 0, 1) := by decide +kernel
theorem dM_request_73 : decode bM_request 73 = .ok (.iastore, 1) := by decide +kernel
theorem dM_request_74 : decode bM_request 74 = .ok (.aload_n 0, 1) := by decide +kernel
theorem dM_request_75 : decode bM_request 75 = .ok (.getfield 56, 3) := by decide +kernel
theorem dM_request_78 : decode bM_request 78 = .ok (.iload 5, 2) := by decide +kernel
theorem dM_request_80 : decode bM_request 80 = .ok (.iconst (-1), 1) := by decide +kernel
theorem dM_request_81 : decode bM_request 81 = .ok (.iastore, 1) := by decide +kernel
theorem dM_request_82 : decode bM_request 82 = .ok (.aload_n 0, 1) := by decide +kernel
theorem dM_request_83 : decode bM_request 83 = .ok (.dup, 1) := by decide +kernel
theorem dM_request_84 : decode bM_request 84 = .ok (.getfield 100, 3) := by decide +kernel
theorem dM_request_87 : decode bM_request 87 = .ok (.iconst 1, 1) := by decide +kernel
theorem dM_request_88 : decode bM_request 88 = .ok (.iadd, 1) := by decide +kernel
theorem dM_request_89 : decode bM_request 89 = .ok (.putfield 100, 3) := by decide +kernel
theorem dM_request_92 : decode bM_request 92 = .ok (.iload 5, 2) := by decide +kernel
theorem dM_request_94 : decode bM_request 94 = .ok (.ireturn, 1) := by decide +kernel
theorem dM_cancel_0 : decode bM_cancel 0 = .ok (.iload_n 1, 1) := by decide +kernel
theorem dM_cancel_1 : decode bM_cancel 1 = .ok (.aload_n 0, 1) := by decide +kernel
theorem dM_cancel_2 : decode bM_cancel 2 = .ok (.getfield 100, 3) := by decide +kernel
theorem dM_cancel_5 : decode bM_cancel 5 = .ok (.invokestatic 96, 3) := by decide +kernel
theorem dM_cancel_8 : decode bM_cancel 8 = .ok (.ifCond .ne 5, 3) := by decide +kernel
theorem dM_cancel_11 : decode bM_cancel 11 = .ok (.iconst (-1), 1) := by decide +kernel
theorem dM_cancel_12 : decode bM_cancel 12 = .ok (.ireturn, 1) := by decide +kernel
theorem dM_cancel_13 : decode bM_cancel 13 = .ok (.aload_n 0, 1) := by decide +kernel
theorem dM_cancel_14 : decode bM_cancel 14 = .ok (.getfield 53, 3) := by decide +kernel
theorem dM_cancel_17 : decode bM_cancel 17 = .ok (.iload_n 1, 1) := by decide +kernel
theorem dM_cancel_18 : decode bM_cancel 18 = .ok (.iaload, 1) := by decide +kernel
theorem dM_cancel_19 : decode bM_cancel 19 = .ok (.ifCond .ne 12, 3) := by decide +kernel
theorem dM_cancel_22 : decode bM_cancel 22 = .ok (.aload_n 0, 1) := by decide +kernel
theorem dM_cancel_23 : decode bM_cancel 23 = .ok (.getfield 53, 3) := by decide +kernel
theorem dM_cancel_26 : decode bM_cancel 26 = .ok (.iload_n 1, 1) := by decide +kernel
theorem dM_cancel_27 : decode bM_cancel 27 = .ok (.iconst 3, 1) := by decide +kernel
theorem dM_cancel_28 : decode bM_cancel 28 = .ok (.iastore, 1) := by decide +kernel
theorem dM_cancel_29 : decode bM_cancel 29 = .ok (.iconst 1, 1) := by decide +kernel
theorem dM_cancel_30 : decode bM_cancel 30 = .ok (.ireturn, 1) := by decide +kernel
theorem dM_cancel_31 : decode bM_cancel 31 = .ok (.aload_n 0, 1) := by decide +kernel
theorem dM_cancel_32 : decode bM_cancel 32 = .ok (.getfield 53, 3) := by decide +kernel
theorem dM_cancel_35 : decode bM_cancel 35 = .ok (.iload_n 1, 1) := by decide +kernel
theorem dM_cancel_36 : decode bM_cancel 36 = .ok (.iaload, 1) := by decide +kernel
theorem dM_cancel_37 : decode bM_cancel 37 = .ok (.iconst 1, 1) := by decide +kernel
theorem dM_cancel_38 : decode bM_cancel 38 = .ok (.if_icmp .eq 5, 3) := by decide +kernel
theorem dM_cancel_41 : decode bM_cancel 41 = .ok (.iconst 0, 1) := by decide +kernel
theorem dM_cancel_42 : decode bM_cancel 42 = .ok (.ireturn, 1) := by decide +kernel
theorem dM_cancel_43 : decode bM_cancel 43 = .ok (.aload_n 0, 1) := by decide +kernel
theorem dM_cancel_44 : decode bM_cancel 44 = .ok (.getfield 65, 3) := by decide +kernel
theorem dM_cancel_47 : decode bM_cancel 47 = .ok (.iload_n 1, 1) := by decide +kernel
theorem dM_cancel_48 : decode bM_cancel 48 = .ok (.iconst 1, 1) := by decide +kernel
theorem dM_cancel_49 : decode bM_cancel 49 = .ok (.bastore, 1) := by decide +kernel
theorem dM_cancel_50 : decode bM_cancel 50 = .ok (.iconst 2, 1) := by decide +kernel
theorem dM_cancel_51 : decode bM_cancel 51 = .ok (.ireturn, 1) := by decide +kernel
theorem dM_answers_0 : decode bM_answers 0 = .ok (.aload_n 0, 1) := by decide +kernel
theorem dM_answers_1 : decode bM_answers 1 = .ok (.getfield 53, 3) := by decide +kernel
theorem dM_answers_4 : decode bM_answers 4 = .ok (.iload_n 1, 1) := by decide +kernel
theorem dM_answers_5 : decode bM_answers 5 = .ok (.iconst 2, 1) := by decide +kernel
theorem dM_answers_6 : decode bM_answers 6 = .ok (.iastore, 1) := by decide +kernel
theorem dM_answers_7 : decode bM_answers 7 = .ok (.aload_n 0, 1) := by decide +kernel
theorem dM_answers_8 : decode bM_answers 8 = .ok (.getfield 75, 3) := by decide +kernel
theorem dM_answers_11 : decode bM_answers 11 = .ok (.iload_n 1, 1) := by decide +kernel
theorem dM_answers_12 : decode bM_answers 12 = .ok (.lload_n 2, 1) := by decide +kernel
theorem dM_answers_13 : decode bM_answers 13 = .ok (.lastore, 1) := by decide +kernel
theorem dM_answers_14 : decode bM_answers 14 = .ok (.return_, 1) := by decide +kernel
theorem dM_lets_0 : decode bM_lets 0 = .ok (.aload_n 0, 1) := by decide +kernel
theorem dM_lets_1 : decode bM_lets 1 = .ok (.getfield 56, 3) := by decide +kernel
theorem dM_lets_4 : decode bM_lets 4 = .ok (.iload_n 1, 1) := by decide +kernel
theorem dM_lets_5 : decode bM_lets 5 = .ok (.iconst (-1), 1) := by decide +kernel
theorem dM_lets_6 : decode bM_lets 6 = .ok (.iastore, 1) := by decide +kernel
theorem dM_lets_7 : decode bM_lets 7 = .ok (.aload_n 0, 1) := by decide +kernel
theorem dM_lets_8 : decode bM_lets 8 = .ok (.getfield 65, 3) := by decide +kernel
theorem dM_lets_11 : decode bM_lets 11 = .ok (.iload_n 1, 1) := by decide +kernel
theorem dM_lets_12 : decode bM_lets 12 = .ok (.baload, 1) := by decide +kernel
theorem dM_lets_13 : decode bM_lets 13 = .ok (.ifCond .ne 5, 3) := by decide +kernel
theorem dM_lets_16 : decode bM_lets 16 = .ok (.iconst 0, 1) := by decide +kernel
theorem dM_lets_17 : decode bM_lets 17 = .ok (.ireturn, 1) := by decide +kernel
theorem dM_lets_18 : decode bM_lets 18 = .ok (.aload_n 0, 1) := by decide +kernel
theorem dM_lets_19 : decode bM_lets 19 = .ok (.getfield 65, 3) := by decide +kernel
theorem dM_lets_22 : decode bM_lets 22 = .ok (.iload_n 1, 1) := by decide +kernel
theorem dM_lets_23 : decode bM_lets 23 = .ok (.iconst 0, 1) := by decide +kernel
theorem dM_lets_24 : decode bM_lets 24 = .ok (.bastore, 1) := by decide +kernel
theorem dM_lets_25 : decode bM_lets 25 = .ok (.aload_n 0, 1) := by decide +kernel
theorem dM_lets_26 : decode bM_lets 26 = .ok (.getfield 53, 3) := by decide +kernel
theorem dM_lets_29 : decode bM_lets 29 = .ok (.iload_n 1, 1) := by decide +kernel
theorem dM_lets_30 : decode bM_lets 30 = .ok (.iconst 3, 1) := by decide +kernel
theorem dM_lets_31 : decode bM_lets 31 = .ok (.iastore, 1) := by decide +kernel
theorem dM_lets_32 : decode bM_lets 32 = .ok (.iconst 1, 1) := by decide +kernel
theorem dM_lets_33 : decode bM_lets 33 = .ok (.ireturn, 1) := by decide +kernel
theorem dM_waitsAgain_0 : decode bM_waitsAgain 0 = .ok (.aload_n 0, 1) := by decide +kernel
theorem dM_waitsAgain_1 : decode bM_waitsAgain 1 = .ok (.iload_n 1, 1) := by decide +kernel
theorem dM_waitsAgain_2 : decode bM_waitsAgain 2 = .ok (.invokevirtual 103, 3) := by decide +kernel
theorem dM_waitsAgain_5 : decode bM_waitsAgain 5 = .ok (.ifCond .ne 10, 3) := by decide +kernel
theorem dM_waitsAgain_8 : decode bM_waitsAgain 8 = .ok (.aload_n 0, 1) := by decide +kernel
theorem dM_waitsAgain_9 : decode bM_waitsAgain 9 = .ok (.getfield 53, 3) := by decide +kernel
theorem dM_waitsAgain_12 : decode bM_waitsAgain 12 = .ok (.iload_n 1, 1) := by decide +kernel
theorem dM_waitsAgain_13 : decode bM_waitsAgain 13 = .ok (.iconst 0, 1) := by decide +kernel
theorem dM_waitsAgain_14 : decode bM_waitsAgain 14 = .ok (.iastore, 1) := by decide +kernel
theorem dM_waitsAgain_15 : decode bM_waitsAgain 15 = .ok (.return_, 1) := by decide +kernel
theorem dM_ends_0 : decode bM_ends 0 = .ok (.aload_n 0, 1) := by decide +kernel
theorem dM_ends_1 : decode bM_ends 1 = .ok (.getfield 32, 3) := by decide +kernel
theorem dM_ends_4 : decode bM_ends 4 = .ok (.iload_n 1, 1) := by decide +kernel
theorem dM_ends_5 : decode bM_ends 5 = .ok (.iaload, 1) := by decide +kernel
theorem dM_ends_6 : decode bM_ends 6 = .ok (.istore_n 3, 1) := by decide +kernel
theorem dM_ends_7 : decode bM_ends 7 = .ok (.aload_n 0, 1) := by decide +kernel
theorem dM_ends_8 : decode bM_ends 8 = .ok (.getfield 23, 3) := by decide +kernel
theorem dM_ends_11 : decode bM_ends 11 = .ok (.iload_n 1, 1) := by decide +kernel
theorem dM_ends_12 : decode bM_ends 12 = .ok (.iconst 2, 1) := by decide +kernel
theorem dM_ends_13 : decode bM_ends 13 = .ok (.iastore, 1) := by decide +kernel
theorem dM_ends_14 : decode bM_ends 14 = .ok (.aload_n 0, 1) := by decide +kernel
theorem dM_ends_15 : decode bM_ends 15 = .ok (.getfield 35, 3) := by decide +kernel
theorem dM_ends_18 : decode bM_ends 18 = .ok (.iload_n 1, 1) := by decide +kernel
theorem dM_ends_19 : decode bM_ends 19 = .ok (.iload_n 2, 1) := by decide +kernel
theorem dM_ends_20 : decode bM_ends 20 = .ok (.iastore, 1) := by decide +kernel
theorem dM_ends_21 : decode bM_ends 21 = .ok (.aload_n 0, 1) := by decide +kernel
theorem dM_ends_22 : decode bM_ends 22 = .ok (.getfield 32, 3) := by decide +kernel
theorem dM_ends_25 : decode bM_ends 25 = .ok (.iload_n 1, 1) := by decide +kernel
theorem dM_ends_26 : decode bM_ends 26 = .ok (.iconst (-1), 1) := by decide +kernel
theorem dM_ends_27 : decode bM_ends 27 = .ok (.iastore, 1) := by decide +kernel
theorem dM_ends_28 : decode bM_ends 28 = .ok (.iload_n 3, 1) := by decide +kernel
theorem dM_ends_29 : decode bM_ends 29 = .ok (.ireturn, 1) := by decide +kernel
theorem dM_freeOne_0 : decode bM_freeOne 0 = .ok (.iconst (-1), 1) := by decide +kernel
theorem dM_freeOne_1 : decode bM_freeOne 1 = .ok (.istore_n 2, 1) := by decide +kernel
theorem dM_freeOne_2 : decode bM_freeOne 2 = .ok (.aload_n 0, 1) := by decide +kernel
theorem dM_freeOne_3 : decode bM_freeOne 3 = .ok (.getfield 107, 3) := by decide +kernel
theorem dM_freeOne_6 : decode bM_freeOne 6 = .ok (.iconst 1, 1) := by decide +kernel
theorem dM_freeOne_7 : decode bM_freeOne 7 = .ok (.isub, 1) := by decide +kernel
theorem dM_freeOne_8 : decode bM_freeOne 8 = .ok (.istore_n 3, 1) := by decide +kernel
theorem dM_freeOne_9 : decode bM_freeOne 9 = .ok (.iload_n 3, 1) := by decide +kernel
theorem dM_freeOne_10 : decode bM_freeOne 10 = .ok (.ifCond .lt 30, 3) := by decide +kernel
theorem dM_freeOne_13 : decode bM_freeOne 13 = .ok (.aload_n 0, 1) := by decide +kernel
theorem dM_freeOne_14 : decode bM_freeOne 14 = .ok (.getfield 20, 3) := by decide +kernel
theorem dM_freeOne_17 : decode bM_freeOne 17 = .ok (.iload_n 3, 1) := by decide +kernel
theorem dM_freeOne_18 : decode bM_freeOne 18 = .ok (.iaload, 1) := by decide +kernel
theorem dM_freeOne_19 : decode bM_freeOne 19 = .ok (.iload_n 1, 1) := by decide +kernel
theorem dM_freeOne_20 : decode bM_freeOne 20 = .ok (.if_icmp .ne 14, 3) := by decide +kernel
theorem dM_freeOne_23 : decode bM_freeOne 23 = .ok (.aload_n 0, 1) := by decide +kernel
theorem dM_freeOne_24 : decode bM_freeOne 24 = .ok (.getfield 23, 3) := by decide +kernel
theorem dM_freeOne_27 : decode bM_freeOne 27 = .ok (.iload_n 3, 1) := by decide +kernel
theorem dM_freeOne_28 : decode bM_freeOne 28 = .ok (.iaload, 1) := by decide +kernel
theorem dM_freeOne_29 : decode bM_freeOne 29 = .ok (.ifCond .ne 5, 3) := by decide +kernel
theorem dM_freeOne_32 : decode bM_freeOne 32 = .ok (.iload_n 3, 1) := by decide +kernel
theorem dM_freeOne_33 : decode bM_freeOne 33 = .ok (.istore_n 2, 1) := by decide +kernel
theorem dM_freeOne_34 : decode bM_freeOne 34 = .ok (.iinc 3 (-1), 3) := by decide +kernel
theorem dM_freeOne_37 : decode bM_freeOne 37 = .ok (.goto (-28), 3) := by decide +kernel
theorem dM_freeOne_40 : decode bM_freeOne 40 = .ok (.iload_n 2, 1) := by decide +kernel
theorem dM_freeOne_41 : decode bM_freeOne 41 = .ok (.ireturn, 1) := by decide +kernel
theorem dM_alive_0 : decode bM_alive 0 = .ok (.iconst 0, 1) := by decide +kernel
theorem dM_alive_1 : decode bM_alive 1 = .ok (.istore_n 2, 1) := by decide +kernel
theorem dM_alive_2 : decode bM_alive 2 = .ok (.iconst 0, 1) := by decide +kernel
theorem dM_alive_3 : decode bM_alive 3 = .ok (.istore_n 3, 1) := by decide +kernel
theorem dM_alive_4 : decode bM_alive 4 = .ok (.iload_n 3, 1) := by decide +kernel
theorem dM_alive_5 : decode bM_alive 5 = .ok (.aload_n 0, 1) := by decide +kernel
theorem dM_alive_6 : decode bM_alive 6 = .ok (.getfield 107, 3) := by decide +kernel
theorem dM_alive_9 : decode bM_alive 9 = .ok (.if_icmp .ge 32, 3) := by decide +kernel
theorem dM_alive_12 : decode bM_alive 12 = .ok (.aload_n 0, 1) := by decide +kernel
theorem dM_alive_13 : decode bM_alive 13 = .ok (.getfield 20, 3) := by decide +kernel
theorem dM_alive_16 : decode bM_alive 16 = .ok (.iload_n 3, 1) := by decide +kernel
theorem dM_alive_17 : decode bM_alive 17 = .ok (.iaload, 1) := by decide +kernel
theorem dM_alive_18 : decode bM_alive 18 = .ok (.iload_n 1, 1) := by decide +kernel
theorem dM_alive_19 : decode bM_alive 19 = .ok (.if_icmp .ne 16, 3) := by decide +kernel
theorem dM_alive_22 : decode bM_alive 22 = .ok (.aload_n 0, 1) := by decide +kernel
theorem dM_alive_23 : decode bM_alive 23 = .ok (.getfield 23, 3) := by decide +kernel
theorem dM_alive_26 : decode bM_alive 26 = .ok (.iload_n 3, 1) := by decide +kernel
theorem dM_alive_27 : decode bM_alive 27 = .ok (.iaload, 1) := by decide +kernel
theorem dM_alive_28 : decode bM_alive 28 = .ok (.iconst 2, 1) := by decide +kernel
theorem dM_alive_29 : decode bM_alive 29 = .ok (.if_icmp .eq 6, 3) := by decide +kernel
theorem dM_alive_32 : decode bM_alive 32 = .ok (.iinc 2 1, 3) := by decide +kernel
theorem dM_alive_35 : decode bM_alive 35 = .ok (.iinc 3 1, 3) := by decide +kernel
theorem dM_alive_38 : decode bM_alive 38 = .ok (.goto (-34), 3) := by decide +kernel
theorem dM_alive_41 : decode bM_alive 41 = .ok (.iload_n 2, 1) := by decide +kernel
theorem dM_alive_42 : decode bM_alive 42 = .ok (.ireturn, 1) := by decide +kernel
theorem dM_newOne_0 : decode bM_newOne 0 = .ok (.aload_n 0, 1) := by decide +kernel
theorem dM_newOne_1 : decode bM_newOne 1 = .ok (.getfield 107, 3) := by decide +kernel
theorem dM_newOne_4 : decode bM_newOne 4 = .ok (.istore_n 2, 1) := by decide +kernel
theorem dM_newOne_5 : decode bM_newOne 5 = .ok (.aload_n 0, 1) := by decide +kernel
theorem dM_newOne_6 : decode bM_newOne 6 = .ok (.getfield 20, 3) := by decide +kernel
theorem dM_newOne_9 : decode bM_newOne 9 = .ok (.iload_n 2, 1) := by decide +kernel
theorem dM_newOne_10 : decode bM_newOne 10 = .ok (.iload_n 1, 1) := by decide +kernel
theorem dM_newOne_11 : decode bM_newOne 11 = .ok (.iastore, 1) := by decide +kernel
theorem dM_newOne_12 : decode bM_newOne 12 = .ok (.aload_n 0, 1) := by decide +kernel
theorem dM_newOne_13 : decode bM_newOne 13 = .ok (.getfield 44, 3) := by decide +kernel
theorem dM_newOne_16 : decode bM_newOne 16 = .ok (.iload_n 2, 1) := by decide +kernel
theorem dM_newOne_17 : decode bM_newOne 17 = .ok (.aload_n 0, 1) := by decide +kernel
theorem dM_newOne_18 : decode bM_newOne 18 = .ok (.getfield 7, 3) := by decide +kernel
theorem dM_newOne_21 : decode bM_newOne 21 = .ok (.iload_n 1, 1) := by decide +kernel
theorem dM_newOne_22 : decode bM_newOne 22 = .ok (.laload, 1) := by decide +kernel
theorem dM_newOne_23 : decode bM_newOne 23 = .ok (.lastore, 1) := by decide +kernel
theorem dM_newOne_24 : decode bM_newOne 24 = .ok (.aload_n 0, 1) := by decide +kernel
theorem dM_newOne_25 : decode bM_newOne 25 = .ok (.dup, 1) := by decide +kernel
theorem dM_newOne_26 : decode bM_newOne 26 = .ok (.getfield 107, 3) := by decide +kernel
theorem dM_newOne_29 : decode bM_newOne 29 = .ok (.iconst 1, 1) := by decide +kernel
theorem dM_newOne_30 : decode bM_newOne 30 = .ok (.iadd, 1) := by decide +kernel
theorem dM_newOne_31 : decode bM_newOne 31 = .ok (.putfield 107, 3) := by decide +kernel
theorem dM_newOne_34 : decode bM_newOne 34 = .ok (.iload_n 2, 1) := by decide +kernel
theorem dM_newOne_35 : decode bM_newOne 35 = .ok (.ireturn, 1) := by decide +kernel
theorem dM_goes_0 : decode bM_goes 0 = .ok (.aload_n 0, 1) := by decide +kernel
theorem dM_goes_1 : decode bM_goes 1 = .ok (.getfield 47, 3) := by decide +kernel
theorem dM_goes_4 : decode bM_goes 4 = .ok (.iload_n 1, 1) := by decide +kernel
theorem dM_goes_5 : decode bM_goes 5 = .ok (.iaload, 1) := by decide +kernel
theorem dM_goes_6 : decode bM_goes 6 = .ok (.istore_n 2, 1) := by decide +kernel
theorem dM_goes_7 : decode bM_goes 7 = .ok (.aload_n 0, 1) := by decide +kernel
theorem dM_goes_8 : decode bM_goes 8 = .ok (.getfield 17, 3) := by decide +kernel
theorem dM_goes_11 : decode bM_goes 11 = .ok (.iload_n 2, 1) := by decide +kernel
theorem dM_goes_12 : decode bM_goes 12 = .ok (.iaload, 1) := by decide +kernel
theorem dM_goes_13 : decode bM_goes 13 = .ok (.iconst 3, 1) := by decide +kernel
theorem dM_goes_14 : decode bM_goes 14 = .ok (.if_icmp .lt 26, 3) := by decide +kernel
theorem dM_goes_17 : decode bM_goes 17 = .ok (.aload_n 0, 1) := by decide +kernel
theorem dM_goes_18 : decode bM_goes 18 = .ok (.iload_n 1, 1) := by decide +kernel
theorem dM_goes_19 : decode bM_goes 19 = .ok (.aload_n 0, 1) := by decide +kernel
theorem dM_goes_20 : decode bM_goes 20 = .ok (.aload_n 0, 1) := by decide +kernel
theorem dM_goes_21 : decode bM_goes 21 = .ok (.getfield 7, 3) := by decide +kernel
theorem dM_goes_24 : decode bM_goes 24 = .ok (.iload_n 2, 1) := by decide +kernel
theorem dM_goes_25 : decode bM_goes 25 = .ok (.laload, 1) := by decide +kernel
theorem dM_goes_26 : decode bM_goes 26 = .ok (.aload_n 0, 1) := by decide +kernel
theorem dM_goes_27 : decode bM_goes 27 = .ok (.getfield 72, 3) := by decide +kernel
theorem dM_goes_30 : decode bM_goes 30 = .ok (.iload_n 1, 1) := by decide +kernel
theorem dM_goes_31 : decode bM_goes 31 = .ok (.laload, 1) := by decide +kernel
theorem dM_goes_32 : decode bM_goes 32 = .ok (.invokevirtual 110, 3) := by decide +kernel
theorem dM_goes_35 : decode bM_goes 35 = .ok (.invokevirtual 114, 3) := by decide +kernel
theorem dM_goes_38 : decode bM_goes 38 = .ok (.iconst 1, 1) := by decide +kernel
theorem dM_goes_39 : decode bM_goes 39 = .ok (.ireturn, 1) := by decide +kernel
theorem dM_goes_40 : decode bM_goes 40 = .ok (.aload_n 0, 1) := by decide +kernel
theorem dM_goes_41 : decode bM_goes 41 = .ok (.iload_n 2, 1) := by decide +kernel
theorem dM_goes_42 : decode bM_goes 42 = .ok (.invokevirtual 118, 3) := by decide +kernel
theorem dM_goes_45 : decode bM_goes 45 = .ok (.istore_n 3, 1) := by decide +kernel
theorem dM_goes_46 : decode bM_goes 46 = .ok (.iload_n 3, 1) := by decide +kernel
theorem dM_goes_47 : decode bM_goes 47 = .ok (.ifCond .ge 30, 3) := by decide +kernel
theorem dM_goes_50 : decode bM_goes 50 = .ok (.aload_n 0, 1) := by decide +kernel
theorem dM_goes_51 : decode bM_goes 51 = .ok (.iload_n 2, 1) := by decide +kernel
theorem dM_goes_52 : decode bM_goes 52 = .ok (.invokevirtual 122, 3) := by decide +kernel
theorem dM_goes_55 : decode bM_goes 55 = .ok (.aload_n 0, 1) := by decide +kernel
theorem dM_goes_56 : decode bM_goes 56 = .ok (.getfield 82, 3) := by decide +kernel
theorem dM_goes_59 : decode bM_goes 59 = .ok (.if_icmp .ge 18, 3) := by decide +kernel
theorem dM_goes_62 : decode bM_goes 62 = .ok (.aload_n 0, 1) := by decide +kernel
theorem dM_goes_63 : decode bM_goes 63 = .ok (.getfield 107, 3) := by decide +kernel
theorem dM_goes_66 : decode bM_goes 66 = .ok (.bipush 60, 2) := by decide +kernel
theorem dM_goes_68 : decode bM_goes 68 = .ok (.if_icmp .ge 9, 3) := by decide +kernel
theorem dM_goes_71 : decode bM_goes 71 = .ok (.aload_n 0, 1) := by decide +kernel
theorem dM_goes_72 : decode bM_goes 72 = .ok (.iload_n 2, 1) := by decide +kernel
theorem dM_goes_73 : decode bM_goes 73 = .ok (.invokevirtual 125, 3) := by decide +kernel
theorem dM_goes_76 : decode bM_goes 76 = .ok (.istore_n 3, 1) := by decide +kernel
theorem dM_goes_77 : decode bM_goes 77 = .ok (.iload_n 3, 1) := by decide +kernel
theorem dM_goes_78 : decode bM_goes 78 = .ok (.ifCond .ge 5, 3) := by decide +kernel
theorem dM_goes_81 : decode bM_goes 81 = .ok (.iconst 0, 1) := by decide +kernel
theorem dM_goes_82 : decode bM_goes 82 = .ok (.ireturn, 1) := by decide +kernel
theorem dM_goes_83 : decode bM_goes 83 = .ok (.aload_n 0, 1) := by decide +kernel
theorem dM_goes_84 : decode bM_goes 84 = .ok (.getfield 23, 3) := by decide +kernel
theorem dM_goes_87 : decode bM_goes 87 = .ok (.iload_n 3, 1) := by decide +kernel
theorem dM_goes_88 : decode bM_goes 88 = .ok (.iconst 1, 1) := by decide +kernel
theorem dM_goes_89 : decode bM_goes 89 = .ok (.iastore, 1) := by decide +kernel
theorem dM_goes_90 : decode bM_goes 90 = .ok (.aload_n 0, 1) := by decide +kernel
theorem dM_goes_91 : decode bM_goes 91 = .ok (.getfield 32, 3) := by decide +kernel
theorem dM_goes_94 : decode bM_goes 94 = .ok (.iload_n 3, 1) := by decide +kernel
theorem dM_goes_95 : decode bM_goes 95 = .ok (.iload_n 1, 1) := by decide +kernel
theorem dM_goes_96 : decode bM_goes 96 = .ok (.iastore, 1) := by decide +kernel
theorem dM_goes_97 : decode bM_goes 97 = .ok (.aload_n 0, 1) := by decide +kernel
theorem dM_goes_98 : decode bM_goes 98 = .ok (.getfield 53, 3) := by decide +kernel
theorem dM_goes_101 : decode bM_goes 101 = .ok (.iload_n 1, 1) := by decide +kernel
theorem dM_goes_102 : decode bM_goes 102 = .ok (.iconst 1, 1) := by decide +kernel
theorem dM_goes_103 : decode bM_goes 103 = .ok (.iastore, 1) := by decide +kernel
theorem dM_goes_104 : decode bM_goes 104 = .ok (.aload_n 0, 1) := by decide +kernel
theorem dM_goes_105 : decode bM_goes 105 = .ok (.getfield 56, 3) := by decide +kernel
theorem dM_goes_108 : decode bM_goes 108 = .ok (.iload_n 1, 1) := by decide +kernel
theorem dM_goes_109 : decode bM_goes 109 = .ok (.iload_n 3, 1) := by decide +kernel
theorem dM_goes_110 : decode bM_goes 110 = .ok (.iastore, 1) := by decide +kernel
theorem dM_goes_111 : decode bM_goes 111 = .ok (.aload_n 0, 1) := by decide +kernel
theorem dM_goes_112 : decode bM_goes 112 = .ok (.getfield 62, 3) := by decide +kernel
theorem dM_goes_115 : decode bM_goes 115 = .ok (.iload_n 1, 1) := by decide +kernel
theorem dM_goes_116 : decode bM_goes 116 = .ok (.dup2, 1) := by decide +kernel
theorem dM_goes_117 : decode bM_goes 117 = .ok (.iaload, 1) := by decide +kernel
theorem dM_goes_118 : decode bM_goes 118 = .ok (.iconst 1, 1) := by decide +kernel
theorem dM_goes_119 : decode bM_goes 119 = .ok (.iadd, 1) := by decide +kernel
theorem dM_goes_120 : decode bM_goes 120 = .ok (.iastore, 1) := by decide +kernel
theorem dM_goes_121 : decode bM_goes 121 = .ok (.iconst 1, 1) := by decide +kernel
theorem dM_goes_122 : decode bM_goes 122 = .ok (.ireturn, 1) := by decide +kernel
theorem dM_step_0 : decode bM_step 0 = .ok (.iconst 0, 1) := by decide +kernel
theorem dM_step_1 : decode bM_step 1 = .ok (.istore_n 1, 1) := by decide +kernel
theorem dM_step_2 : decode bM_step 2 = .ok (.iconst 0, 1) := by decide +kernel
theorem dM_step_3 : decode bM_step 3 = .ok (.istore_n 2, 1) := by decide +kernel
theorem dM_step_4 : decode bM_step 4 = .ok (.iload_n 2, 1) := by decide +kernel
theorem dM_step_5 : decode bM_step 5 = .ok (.aload_n 0, 1) := by decide +kernel
theorem dM_step_6 : decode bM_step 6 = .ok (.getfield 100, 3) := by decide +kernel
theorem dM_step_9 : decode bM_step 9 = .ok (.if_icmp .ge 29, 3) := by decide +kernel
theorem dM_step_12 : decode bM_step 12 = .ok (.aload_n 0, 1) := by decide +kernel
theorem dM_step_13 : decode bM_step 13 = .ok (.getfield 53, 3) := by decide +kernel
theorem dM_step_16 : decode bM_step 16 = .ok (.iload_n 2, 1) := by decide +kernel
theorem dM_step_17 : decode bM_step 17 = .ok (.iaload, 1) := by decide +kernel
theorem dM_step_18 : decode bM_step 18 = .ok (.ifCond .ne 14, 3) := by decide +kernel
theorem dM_step_21 : decode bM_step 21 = .ok (.aload_n 0, 1) := by decide +kernel
theorem dM_step_22 : decode bM_step 22 = .ok (.iload_n 2, 1) := by decide +kernel
theorem dM_step_23 : decode bM_step 23 = .ok (.invokevirtual 128, 3) := by decide +kernel
theorem dM_step_26 : decode bM_step 26 = .ok (.ifCond .eq 6, 3) := by decide +kernel
theorem dM_step_29 : decode bM_step 29 = .ok (.iinc 1 1, 3) := by decide +kernel
theorem dM_step_32 : decode bM_step 32 = .ok (.iinc 2 1, 3) := by decide +kernel
theorem dM_step_35 : decode bM_step 35 = .ok (.goto (-31), 3) := by decide +kernel
theorem dM_step_38 : decode bM_step 38 = .ok (.iload_n 1, 1) := by decide +kernel
theorem dM_step_39 : decode bM_step 39 = .ok (.ireturn, 1) := by decide +kernel
theorem dM_isBusy_0 : decode bM_isBusy 0 = .ok (.iload_n 1, 1) := by decide +kernel
theorem dM_isBusy_1 : decode bM_isBusy 1 = .ok (.aload_n 0, 1) := by decide +kernel
theorem dM_isBusy_2 : decode bM_isBusy 2 = .ok (.getfield 107, 3) := by decide +kernel
theorem dM_isBusy_5 : decode bM_isBusy 5 = .ok (.invokestatic 96, 3) := by decide +kernel
theorem dM_isBusy_8 : decode bM_isBusy 8 = .ok (.ifCond .eq 17, 3) := by decide +kernel
theorem dM_isBusy_11 : decode bM_isBusy 11 = .ok (.aload_n 0, 1) := by decide +kernel
theorem dM_isBusy_12 : decode bM_isBusy 12 = .ok (.getfield 23, 3) := by decide +kernel
theorem dM_isBusy_15 : decode bM_isBusy 15 = .ok (.iload_n 1, 1) := by decide +kernel
theorem dM_isBusy_16 : decode bM_isBusy 16 = .ok (.iaload, 1) := by decide +kernel
theorem dM_isBusy_17 : decode bM_isBusy 17 = .ok (.iconst 1, 1) := by decide +kernel
theorem dM_isBusy_18 : decode bM_isBusy 18 = .ok (.if_icmp .ne 7, 3) := by decide +kernel
theorem dM_isBusy_21 : decode bM_isBusy 21 = .ok (.iconst 1, 1) := by decide +kernel
theorem dM_isBusy_22 : decode bM_isBusy 22 = .ok (.goto 4, 3) := by decide +kernel
theorem dM_isBusy_25 : decode bM_isBusy 25 = .ok (.iconst 0, 1) := by decide +kernel
theorem dM_isBusy_26 : decode bM_isBusy 26 = .ok (.ireturn, 1) := by decide +kernel
theorem dM_finish_0 : decode bM_finish 0 = .ok (.aload_n 0, 1) := by decide +kernel
theorem dM_finish_1 : decode bM_finish 1 = .ok (.iload_n 1, 1) := by decide +kernel
theorem dM_finish_2 : decode bM_finish 2 = .ok (.invokevirtual 131, 3) := by decide +kernel
theorem dM_finish_5 : decode bM_finish 5 = .ok (.ifCond .ne 5, 3) := by decide +kernel
theorem dM_finish_8 : decode bM_finish 8 = .ok (.iconst (-1), 1) := by decide +kernel
theorem dM_finish_9 : decode bM_finish 9 = .ok (.ireturn, 1) := by decide +kernel
theorem dM_finish_10 : decode bM_finish 10 = .ok (.aload_n 0, 1) := by decide +kernel
theorem dM_finish_11 : decode bM_finish 11 = .ok (.getfield 32, 3) := by decide +kernel
theorem dM_finish_14 : decode bM_finish 14 = .ok (.iload_n 1, 1) := by decide +kernel
theorem dM_finish_15 : decode bM_finish 15 = .ok (.iaload, 1) := by decide +kernel
theorem dM_finish_16 : decode bM_finish 16 = .ok (.istore_n 2, 1) := by decide +kernel
theorem dM_finish_17 : decode bM_finish 17 = .ok (.aload_n 0, 1) := by decide +kernel
theorem dM_finish_18 : decode bM_finish 18 = .ok (.getfield 65, 3) := by decide +kernel
theorem dM_finish_21 : decode bM_finish 21 = .ok (.iload_n 2, 1) := by decide +kernel
theorem dM_finish_22 : decode bM_finish 22 = .ok (.baload, 1) := by decide +kernel
theorem dM_finish_23 : decode bM_finish 23 = .ok (.ifCond .eq 12, 3) := by decide +kernel
theorem dM_finish_26 : decode bM_finish 26 = .ok (.aload_n 0, 1) := by decide +kernel
theorem dM_finish_27 : decode bM_finish 27 = .ok (.iload_n 2, 1) := by decide +kernel
theorem dM_finish_28 : decode bM_finish 28 = .ok (.invokevirtual 103, 3) := by decide +kernel
theorem dM_finish_31 : decode bM_finish 31 = .ok (.istore_n 3, 1) := by decide +kernel
theorem dM_finish_32 : decode bM_finish 32 = .ok (.goto 59, 3) := by decide +kernel
theorem dM_finish_35 : decode bM_finish 35 = .ok (.aload_n 0, 1) := by decide +kernel
theorem dM_finish_36 : decode bM_finish 36 = .ok (.iload_n 2, 1) := by decide +kernel
theorem dM_finish_37 : decode bM_finish 37 = .ok (.aload_n 0, 1) := by decide +kernel
theorem dM_finish_38 : decode bM_finish 38 = .ok (.aload_n 0, 1) := by decide +kernel
theorem dM_finish_39 : decode bM_finish 39 = .ok (.getfield 44, 3) := by decide +kernel
theorem dM_finish_42 : decode bM_finish 42 = .ok (.iload_n 1, 1) := by decide +kernel
theorem dM_finish_43 : decode bM_finish 43 = .ok (.laload, 1) := by decide +kernel
theorem dM_finish_44 : decode bM_finish 44 = .ok (.aload_n 0, 1) := by decide +kernel
theorem dM_finish_45 : decode bM_finish 45 = .ok (.getfield 72, 3) := by decide +kernel
theorem dM_finish_48 : decode bM_finish 48 = .ok (.iload_n 2, 1) := by decide +kernel
theorem dM_finish_49 : decode bM_finish 49 = .ok (.laload, 1) := by decide +kernel
theorem dM_finish_50 : decode bM_finish 50 = .ok (.invokevirtual 110, 3) := by decide +kernel
theorem dM_finish_53 : decode bM_finish 53 = .ok (.aload_n 0, 1) := by decide +kernel
theorem dM_finish_54 : decode bM_finish 54 = .ok (.getfield 13, 3) := by decide +kernel
theorem dM_finish_57 : decode bM_finish 57 = .ok (.aload_n 0, 1) := by decide +kernel
theorem dM_finish_58 : decode bM_finish 58 = .ok (.getfield 20, 3) := by decide +kernel
theorem dM_finish_61 : decode bM_finish 61 = .ok (.iload_n 1, 1) := by decide +kernel
theorem dM_finish_62 : decode bM_finish 62 = .ok (.iaload, 1) := by decide +kernel
theorem dM_finish_63 : decode bM_finish 63 = .ok (.iaload, 1) := by decide +kernel
theorem dM_finish_64 : decode bM_finish 64 = .ok (.i2l, 1) := by decide +kernel
theorem dM_finish_65 : decode bM_finish 65 = .ok (.aload_n 0, 1) := by decide +kernel
theorem dM_finish_66 : decode bM_finish 66 = .ok (.getfield 26, 3) := by decide +kernel
theorem dM_finish_69 : decode bM_finish 69 = .ok (.iload_n 1, 1) := by decide +kernel
theorem dM_finish_70 : decode bM_finish 70 = .ok (.iaload, 1) := by decide +kernel
theorem dM_finish_71 : decode bM_finish 71 = .ok (.i2l, 1) := by decide +kernel
theorem dM_finish_72 : decode bM_finish 72 = .ok (.lmul, 1) := by decide +kernel
theorem dM_finish_73 : decode bM_finish 73 = .ok (.ladd, 1) := by decide +kernel
theorem dM_finish_74 : decode bM_finish 74 = .ok (.invokevirtual 114, 3) := by decide +kernel
theorem dM_finish_77 : decode bM_finish 77 = .ok (.aload_n 0, 1) := by decide +kernel
theorem dM_finish_78 : decode bM_finish 78 = .ok (.getfield 59, 3) := by decide +kernel
theorem dM_finish_81 : decode bM_finish 81 = .ok (.iload_n 2, 1) := by decide +kernel
theorem dM_finish_82 : decode bM_finish 82 = .ok (.aload_n 0, 1) := by decide +kernel
theorem dM_finish_83 : decode bM_finish 83 = .ok (.getfield 26, 3) := by decide +kernel
theorem dM_finish_86 : decode bM_finish 86 = .ok (.iload_n 1, 1) := by decide +kernel
theorem dM_finish_87 : decode bM_finish 87 = .ok (.iaload, 1) := by decide +kernel
theorem dM_finish_88 : decode bM_finish 88 = .ok (.iconst 1, 1) := by decide +kernel
theorem dM_finish_89 : decode bM_finish 89 = .ok (.iadd, 1) := by decide +kernel
theorem dM_finish_90 : decode bM_finish 90 = .ok (.iastore, 1) := by decide +kernel
theorem dM_finish_91 : decode bM_finish 91 = .ok (.aload_n 0, 1) := by decide +kernel
theorem dM_finish_92 : decode bM_finish 92 = .ok (.getfield 26, 3) := by decide +kernel
theorem dM_finish_95 : decode bM_finish 95 = .ok (.iload_n 1, 1) := by decide +kernel
theorem dM_finish_96 : decode bM_finish 96 = .ok (.dup2, 1) := by decide +kernel
theorem dM_finish_97 : decode bM_finish 97 = .ok (.iaload, 1) := by decide +kernel
theorem dM_finish_98 : decode bM_finish 98 = .ok (.iconst 1, 1) := by decide +kernel
theorem dM_finish_99 : decode bM_finish 99 = .ok (.iadd, 1) := by decide +kernel
theorem dM_finish_100 : decode bM_finish 100 = .ok (.iastore, 1) := by decide +kernel
theorem dM_finish_101 : decode bM_finish 101 = .ok (.aload_n 0, 1) := by decide +kernel
theorem dM_finish_102 : decode bM_finish 102 = .ok (.getfield 29, 3) := by decide +kernel
theorem dM_finish_105 : decode bM_finish 105 = .ok (.iload_n 1, 1) := by decide +kernel
theorem dM_finish_106 : decode bM_finish 106 = .ok (.dup2, 1) := by decide +kernel
theorem dM_finish_107 : decode bM_finish 107 = .ok (.iaload, 1) := by decide +kernel
theorem dM_finish_108 : decode bM_finish 108 = .ok (.aload_n 0, 1) := by decide +kernel
theorem dM_finish_109 : decode bM_finish 109 = .ok (.getfield 50, 3) := by decide +kernel
theorem dM_finish_112 : decode bM_finish 112 = .ok (.iload_n 2, 1) := by decide +kernel
theorem dM_finish_113 : decode bM_finish 113 = .ok (.iaload, 1) := by decide +kernel
theorem dM_finish_114 : decode bM_finish 114 = .ok (.iadd, 1) := by decide +kernel
theorem dM_finish_115 : decode bM_finish 115 = .ok (.iastore, 1) := by decide +kernel
theorem dM_finish_116 : decode bM_finish 116 = .ok (.aload_n 0, 1) := by decide +kernel
theorem dM_finish_117 : decode bM_finish 117 = .ok (.getfield 32, 3) := by decide +kernel
theorem dM_finish_120 : decode bM_finish 120 = .ok (.iload_n 1, 1) := by decide +kernel
theorem dM_finish_121 : decode bM_finish 121 = .ok (.iconst (-1), 1) := by decide +kernel
theorem dM_finish_122 : decode bM_finish 122 = .ok (.iastore, 1) := by decide +kernel
theorem dM_finish_123 : decode bM_finish 123 = .ok (.aload_n 0, 1) := by decide +kernel
theorem dM_finish_124 : decode bM_finish 124 = .ok (.getfield 23, 3) := by decide +kernel
theorem dM_finish_127 : decode bM_finish 127 = .ok (.iload_n 1, 1) := by decide +kernel
theorem dM_finish_128 : decode bM_finish 128 = .ok (.iconst 0, 1) := by decide +kernel
theorem dM_finish_129 : decode bM_finish 129 = .ok (.iastore, 1) := by decide +kernel
theorem dM_finish_130 : decode bM_finish 130 = .ok (.aload_n 0, 1) := by decide +kernel
theorem dM_finish_131 : decode bM_finish 131 = .ok (.getfield 41, 3) := by decide +kernel
theorem dM_finish_134 : decode bM_finish 134 = .ok (.iload_n 1, 1) := by decide +kernel
theorem dM_finish_135 : decode bM_finish 135 = .ok (.aload_n 0, 1) := by decide +kernel
theorem dM_finish_136 : decode bM_finish 136 = .ok (.getfield 134, 3) := by decide +kernel
theorem dM_finish_139 : decode bM_finish 139 = .ok (.iastore, 1) := by decide +kernel
theorem dM_finish_140 : decode bM_finish 140 = .ok (.aload_n 0, 1) := by decide +kernel
theorem dM_finish_141 : decode bM_finish 141 = .ok (.getfield 29, 3) := by decide +kernel
theorem dM_finish_144 : decode bM_finish 144 = .ok (.iload_n 1, 1) := by decide +kernel
theorem dM_finish_145 : decode bM_finish 145 = .ok (.iaload, 1) := by decide +kernel
theorem dM_finish_146 : decode bM_finish 146 = .ok (.aload_n 0, 1) := by decide +kernel
theorem dM_finish_147 : decode bM_finish 147 = .ok (.getfield 87, 3) := by decide +kernel
theorem dM_finish_150 : decode bM_finish 150 = .ok (.if_icmp .le 10, 3) := by decide +kernel
theorem dM_finish_153 : decode bM_finish 153 = .ok (.aload_n 0, 1) := by decide +kernel
theorem dM_finish_154 : decode bM_finish 154 = .ok (.iload_n 1, 1) := by decide +kernel
theorem dM_finish_155 : decode bM_finish 155 = .ok (.iconst 2, 1) := by decide +kernel
theorem dM_finish_156 : decode bM_finish 156 = .ok (.invokevirtual 137, 3) := by decide +kernel
theorem dM_finish_159 : decode bM_finish 159 = .ok (.istore_n 3, 1) := by decide +kernel
theorem dM_finish_160 : decode bM_finish 160 = .ok (.iload_n 2, 1) := by decide +kernel
theorem dM_finish_161 : decode bM_finish 161 = .ok (.ireturn, 1) := by decide +kernel
theorem dM_crash_0 : decode bM_crash 0 = .ok (.iload_n 1, 1) := by decide +kernel
theorem dM_crash_1 : decode bM_crash 1 = .ok (.aload_n 0, 1) := by decide +kernel
theorem dM_crash_2 : decode bM_crash 2 = .ok (.getfield 107, 3) := by decide +kernel
theorem dM_crash_5 : decode bM_crash 5 = .ok (.invokestatic 96, 3) := by decide +kernel
theorem dM_crash_8 : decode bM_crash 8 = .ok (.ifCond .eq 13, 3) := by decide +kernel
theorem dM_crash_11 : decode bM_crash 11 = .ok (.aload_n 0, 1) := by decide +kernel
theorem dM_crash_12 : decode bM_crash 12 = .ok (.getfield 23, 3) := by decide +kernel
theorem dM_crash_15 : decode bM_crash 15 = .ok (.iload_n 1, 1) := by decide +kernel
theorem dM_crash_16 : decode bM_crash 16 = .ok (.iaload, 1) := by decide +kernel
theorem dM_crash_17 : decode bM_crash 17 = .ok (.iconst 2, 1) := by decide +kernel
theorem dM_crash_18 : decode bM_crash 18 = .ok (.if_icmp .ne 5, 3) := by decide +kernel
theorem dM_crash_21 : decode bM_crash 21 = .ok (.iconst (-1), 1) := by decide +kernel
theorem dM_crash_22 : decode bM_crash 22 = .ok (.ireturn, 1) := by decide +kernel
theorem dM_crash_23 : decode bM_crash 23 = .ok (.aload_n 0, 1) := by decide +kernel
theorem dM_crash_24 : decode bM_crash 24 = .ok (.getfield 23, 3) := by decide +kernel
theorem dM_crash_27 : decode bM_crash 27 = .ok (.iload_n 1, 1) := by decide +kernel
theorem dM_crash_28 : decode bM_crash 28 = .ok (.iaload, 1) := by decide +kernel
theorem dM_crash_29 : decode bM_crash 29 = .ok (.iconst 1, 1) := by decide +kernel
theorem dM_crash_30 : decode bM_crash 30 = .ok (.if_icmp .ne 7, 3) := by decide +kernel
theorem dM_crash_33 : decode bM_crash 33 = .ok (.iconst 1, 1) := by decide +kernel
theorem dM_crash_34 : decode bM_crash 34 = .ok (.goto 4, 3) := by decide +kernel
theorem dM_crash_37 : decode bM_crash 37 = .ok (.iconst 0, 1) := by decide +kernel
theorem dM_crash_38 : decode bM_crash 38 = .ok (.istore_n 2, 1) := by decide +kernel
theorem dM_crash_39 : decode bM_crash 39 = .ok (.aload_n 0, 1) := by decide +kernel
theorem dM_crash_40 : decode bM_crash 40 = .ok (.iload_n 1, 1) := by decide +kernel
theorem dM_crash_41 : decode bM_crash 41 = .ok (.iconst 3, 1) := by decide +kernel
theorem dM_crash_42 : decode bM_crash 42 = .ok (.invokevirtual 137, 3) := by decide +kernel
theorem dM_crash_45 : decode bM_crash 45 = .ok (.istore_n 3, 1) := by decide +kernel
theorem dM_crash_46 : decode bM_crash 46 = .ok (.iload_n 2, 1) := by decide +kernel
theorem dM_crash_47 : decode bM_crash 47 = .ok (.ifCond .eq 32, 3) := by decide +kernel
theorem dM_crash_50 : decode bM_crash 50 = .ok (.aload_n 0, 1) := by decide +kernel
theorem dM_crash_51 : decode bM_crash 51 = .ok (.iload_n 3, 1) := by decide +kernel
theorem dM_crash_52 : decode bM_crash 52 = .ok (.invokevirtual 103, 3) := by decide +kernel
theorem dM_crash_55 : decode bM_crash 55 = .ok (.ifCond .ne 24, 3) := by decide +kernel
theorem dM_crash_58 : decode bM_crash 58 = .ok (.aload_n 0, 1) := by decide +kernel
theorem dM_crash_59 : decode bM_crash 59 = .ok (.iload_n 3, 1) := by decide +kernel
theorem dM_crash_60 : decode bM_crash 60 = .ok (.aload_n 0, 1) := by decide +kernel
theorem dM_crash_61 : decode bM_crash 61 = .ok (.aload_n 0, 1) := by decide +kernel
theorem dM_crash_62 : decode bM_crash 62 = .ok (.getfield 44, 3) := by decide +kernel
theorem dM_crash_65 : decode bM_crash 65 = .ok (.iload_n 1, 1) := by decide +kernel
theorem dM_crash_66 : decode bM_crash 66 = .ok (.laload, 1) := by decide +kernel
theorem dM_crash_67 : decode bM_crash 67 = .ok (.aload_n 0, 1) := by decide +kernel
theorem dM_crash_68 : decode bM_crash 68 = .ok (.getfield 72, 3) := by decide +kernel
theorem dM_crash_71 : decode bM_crash 71 = .ok (.iload_n 3, 1) := by decide +kernel
theorem dM_crash_72 : decode bM_crash 72 = .ok (.laload, 1) := by decide +kernel
theorem dM_crash_73 : decode bM_crash 73 = .ok (.invokevirtual 110, 3) := by decide +kernel
theorem dM_crash_76 : decode bM_crash 76 = .ok (.invokevirtual 114, 3) := by decide +kernel
theorem dM_crash_79 : decode bM_crash 79 = .ok (.iconst 1, 1) := by decide +kernel
theorem dM_crash_80 : decode bM_crash 80 = .ok (.ireturn, 1) := by decide +kernel
theorem dM_edition_0 : decode bM_edition 0 = .ok (.iload_n 1, 1) := by decide +kernel
theorem dM_edition_1 : decode bM_edition 1 = .ok (.aload_n 0, 1) := by decide +kernel
theorem dM_edition_2 : decode bM_edition 2 = .ok (.getfield 93, 3) := by decide +kernel
theorem dM_edition_5 : decode bM_edition 5 = .ok (.invokestatic 96, 3) := by decide +kernel
theorem dM_edition_8 : decode bM_edition 8 = .ok (.ifCond .ne 5, 3) := by decide +kernel
theorem dM_edition_11 : decode bM_edition 11 = .ok (.iconst (-1), 1) := by decide +kernel
theorem dM_edition_12 : decode bM_edition 12 = .ok (.ireturn, 1) := by decide +kernel
theorem dM_edition_13 : decode bM_edition 13 = .ok (.aload_n 0, 1) := by decide +kernel
theorem dM_edition_14 : decode bM_edition 14 = .ok (.getfield 7, 3) := by decide +kernel
theorem dM_edition_17 : decode bM_edition 17 = .ok (.iload_n 1, 1) := by decide +kernel
theorem dM_edition_18 : decode bM_edition 18 = .ok (.lload_n 2, 1) := by decide +kernel
theorem dM_edition_19 : decode bM_edition 19 = .ok (.lastore, 1) := by decide +kernel
theorem dM_edition_20 : decode bM_edition 20 = .ok (.iconst 0, 1) := by decide +kernel
theorem dM_edition_21 : decode bM_edition 21 = .ok (.istore 4, 2) := by decide +kernel
theorem dM_edition_23 : decode bM_edition 23 = .ok (.iconst 0, 1) := by decide +kernel
theorem dM_edition_24 : decode bM_edition 24 = .ok (.istore 5, 2) := by decide +kernel
theorem dM_edition_26 : decode bM_edition 26 = .ok (.iload 5, 2) := by decide +kernel
theorem dM_edition_28 : decode bM_edition 28 = .ok (.aload_n 0, 1) := by decide +kernel
theorem dM_edition_29 : decode bM_edition 29 = .ok (.getfield 107, 3) := by decide +kernel
theorem dM_edition_32 : decode bM_edition 32 = .ok (.if_icmp .ge 72, 3) := by decide +kernel
theorem dM_edition_35 : decode bM_edition 35 = .ok (.aload_n 0, 1) := by decide +kernel
theorem dM_edition_36 : decode bM_edition 36 = .ok (.getfield 20, 3) := by decide +kernel
theorem dM_edition_39 : decode bM_edition 39 = .ok (.iload 5, 2) := by decide +kernel
theorem dM_edition_41 : decode bM_edition 41 = .ok (.iaload, 1) := by decide +kernel
theorem dM_edition_42 : decode bM_edition 42 = .ok (.iload_n 1, 1) := by decide +kernel
theorem dM_edition_43 : decode bM_edition 43 = .ok (.if_icmp .ne 55, 3) := by decide +kernel
theorem dM_edition_46 : decode bM_edition 46 = .ok (.aload_n 0, 1) := by decide +kernel
theorem dM_edition_47 : decode bM_edition 47 = .ok (.getfield 23, 3) := by decide +kernel
theorem dM_edition_50 : decode bM_edition 50 = .ok (.iload 5, 2) := by decide +kernel
theorem dM_edition_52 : decode bM_edition 52 = .ok (.iaload, 1) := by decide +kernel
theorem dM_edition_53 : decode bM_edition 53 = .ok (.iconst 2, 1) := by decide +kernel
theorem dM_edition_54 : decode bM_edition 54 = .ok (.if_icmp .eq 44, 3) := by decide +kernel
theorem dM_edition_57 : decode bM_edition 57 = .ok (.aload_n 0, 1) := by decide +kernel
theorem dM_edition_58 : decode bM_edition 58 = .ok (.getfield 23, 3) := by decide +kernel
theorem dM_edition_61 : decode bM_edition 61 = .ok (.iload 5, 2) := by decide +kernel
theorem dM_edition_63 : decode bM_edition 63 = .ok (.iaload, 1) := by decide +kernel
theorem dM_edition_64 : decode bM_edition 64 = .ok (.iconst 1, 1) := by decide +kernel
theorem dM_edition_65 : decode bM_edition 65 = .ok (.if_icmp .ne 7, 3) := by decide +kernel
theorem dM_edition_68 : decode bM_edition 68 = .ok (.iconst 1, 1) := by decide +kernel
theorem dM_edition_69 : decode bM_edition 69 = .ok (.goto 4, 3) := by decide +kernel
theorem dM_edition_72 : decode bM_edition 72 = .ok (.iconst 0, 1) := by decide +kernel
theorem dM_edition_73 : decode bM_edition 73 = .ok (.istore 6, 2) := by decide +kernel
theorem dM_edition_75 : decode bM_edition 75 = .ok (.aload_n 0, 1) := by decide +kernel
theorem dM_edition_76 : decode bM_edition 76 = .ok (.iload 5, 2) := by decide +kernel
theorem dM_edition_78 : decode bM_edition 78 = .ok (.iconst 1, 1) := by decide +kernel
theorem dM_edition_79 : decode bM_edition 79 = .ok (.invokevirtual 137, 3) := by decide +kernel
theorem dM_edition_82 : decode bM_edition 82 = .ok (.istore 7, 2) := by decide +kernel
theorem dM_edition_84 : decode bM_edition 84 = .ok (.iload 6, 2) := by decide +kernel
theorem dM_edition_86 : decode bM_edition 86 = .ok (.ifCond .eq 9, 3) := by decide +kernel
theorem dM_edition_89 : decode bM_edition 89 = .ok (.aload_n 0, 1) := by decide +kernel
theorem dM_edition_90 : decode bM_edition 90 = .ok (.iload 7, 2) := by decide +kernel
theorem dM_edition_92 : decode bM_edition 92 = .ok (.invokevirtual 141, 3) := by decide +kernel
theorem dM_edition_95 : decode bM_edition 95 = .ok (.iinc 4 1, 3) := by decide +kernel
theorem dM_edition_98 : decode bM_edition 98 = .ok (.iinc 5 1, 3) := by decide +kernel
theorem dM_edition_101 : decode bM_edition 101 = .ok (.goto (-75), 3) := by decide +kernel
theorem dM_edition_104 : decode bM_edition 104 = .ok (.iload 4, 2) := by decide +kernel
theorem dM_edition_106 : decode bM_edition 106 = .ok (.ireturn, 1) := by decide +kernel
theorem dM_tick_0 : decode bM_tick 0 = .ok (.iload_n 1, 1) := by decide +kernel
theorem dM_tick_1 : decode bM_tick 1 = .ok (.ifCond .lt 21, 3) := by decide +kernel
theorem dM_tick_4 : decode bM_tick 4 = .ok (.iload_n 1, 1) := by decide +kernel
theorem dM_tick_5 : decode bM_tick 5 = .ok (.sipush 10000, 3) := by decide +kernel
theorem dM_tick_8 : decode bM_tick 8 = .ok (.if_icmp .gt 14, 3) := by decide +kernel
theorem dM_tick_11 : decode bM_tick 11 = .ok (.aload_n 0, 1) := by decide +kernel
theorem dM_tick_12 : decode bM_tick 12 = .ok (.getfield 134, 3) := by decide +kernel
theorem dM_tick_15 : decode bM_tick 15 = .ok (.iload_n 1, 1) := by decide +kernel
theorem dM_tick_16 : decode bM_tick 16 = .ok (.iadd, 1) := by decide +kernel
theorem dM_tick_17 : decode bM_tick 17 = .ok (.ldc 145, 2) := by decide +kernel
theorem dM_tick_19 : decode bM_tick 19 = .ok (.if_icmp .le 5, 3) := by decide +kernel
theorem dM_tick_22 : decode bM_tick 22 = .ok (.iconst (-1), 1) := by decide +kernel
theorem dM_tick_23 : decode bM_tick 23 = .ok (.ireturn, 1) := by decide +kernel
theorem dM_tick_24 : decode bM_tick 24 = .ok (.aload_n 0, 1) := by decide +kernel
theorem dM_tick_25 : decode bM_tick 25 = .ok (.dup, 1) := by decide +kernel
theorem dM_tick_26 : decode bM_tick 26 = .ok (.getfield 134, 3) := by decide +kernel
theorem dM_tick_29 : decode bM_tick 29 = .ok (.iload_n 1, 1) := by decide +kernel
theorem dM_tick_30 : decode bM_tick 30 = .ok (.iadd, 1) := by decide +kernel
theorem dM_tick_31 : decode bM_tick 31 = .ok (.putfield 134, 3) := by decide +kernel
theorem dM_tick_34 : decode bM_tick 34 = .ok (.iconst 0, 1) := by decide +kernel
theorem dM_tick_35 : decode bM_tick 35 = .ok (.istore_n 2, 1) := by decide +kernel
theorem dM_tick_36 : decode bM_tick 36 = .ok (.iconst 0, 1) := by decide +kernel
theorem dM_tick_37 : decode bM_tick 37 = .ok (.istore_n 3, 1) := by decide +kernel
theorem dM_tick_38 : decode bM_tick 38 = .ok (.iload_n 3, 1) := by decide +kernel
theorem dM_tick_39 : decode bM_tick 39 = .ok (.aload_n 0, 1) := by decide +kernel
theorem dM_tick_40 : decode bM_tick 40 = .ok (.getfield 107, 3) := by decide +kernel
theorem dM_tick_43 : decode bM_tick 43 = .ok (.if_icmp .ge 47, 3) := by decide +kernel
theorem dM_tick_46 : decode bM_tick 46 = .ok (.aload_n 0, 1) := by decide +kernel
theorem dM_tick_47 : decode bM_tick 47 = .ok (.getfield 23, 3) := by decide +kernel
theorem dM_tick_50 : decode bM_tick 50 = .ok (.iload_n 3, 1) := by decide +kernel
theorem dM_tick_51 : decode bM_tick 51 = .ok (.iaload, 1) := by decide +kernel
theorem dM_tick_52 : decode bM_tick 52 = .ok (.ifCond .ne 32, 3) := by decide +kernel
theorem dM_tick_55 : decode bM_tick 55 = .ok (.aload_n 0, 1) := by decide +kernel
theorem dM_tick_56 : decode bM_tick 56 = .ok (.getfield 134, 3) := by decide +kernel
theorem dM_tick_59 : decode bM_tick 59 = .ok (.aload_n 0, 1) := by decide +kernel
theorem dM_tick_60 : decode bM_tick 60 = .ok (.getfield 41, 3) := by decide +kernel
theorem dM_tick_63 : decode bM_tick 63 = .ok (.iload_n 3, 1) := by decide +kernel
theorem dM_tick_64 : decode bM_tick 64 = .ok (.iaload, 1) := by decide +kernel
theorem dM_tick_65 : decode bM_tick 65 = .ok (.isub, 1) := by decide +kernel
theorem dM_tick_66 : decode bM_tick 66 = .ok (.aload_n 0, 1) := by decide +kernel
theorem dM_tick_67 : decode bM_tick 67 = .ok (.getfield 90, 3) := by decide +kernel
theorem dM_tick_70 : decode bM_tick 70 = .ok (.if_icmp .lt 14, 3) := by decide +kernel
theorem dM_tick_73 : decode bM_tick 73 = .ok (.aload_n 0, 1) := by decide +kernel
theorem dM_tick_74 : decode bM_tick 74 = .ok (.iload_n 3, 1) := by decide +kernel
theorem dM_tick_75 : decode bM_tick 75 = .ok (.iconst 4, 1) := by decide +kernel
theorem dM_tick_76 : decode bM_tick 76 = .ok (.invokevirtual 137, 3) := by decide +kernel
theorem dM_tick_79 : decode bM_tick 79 = .ok (.istore 4, 2) := by decide +kernel
theorem dM_tick_81 : decode bM_tick 81 = .ok (.iinc 2 1, 3) := by decide +kernel
theorem dM_tick_84 : decode bM_tick 84 = .ok (.iinc 3 1, 3) := by decide +kernel
theorem dM_tick_87 : decode bM_tick 87 = .ok (.goto (-49), 3) := by decide +kernel
theorem dM_tick_90 : decode bM_tick 90 = .ok (.iload_n 2, 1) := by decide +kernel
theorem dM_tick_91 : decode bM_tick 91 = .ok (.ireturn, 1) := by decide +kernel
theorem dM_isDoneBy_0 : decode bM_isDoneBy 0 = .ok (.aload_n 0, 1) := by decide +kernel
theorem dM_isDoneBy_1 : decode bM_isDoneBy 1 = .ok (.getfield 53, 3) := by decide +kernel
theorem dM_isDoneBy_4 : decode bM_isDoneBy 4 = .ok (.iload_n 1, 1) := by decide +kernel
theorem dM_isDoneBy_5 : decode bM_isDoneBy 5 = .ok (.iaload, 1) := by decide +kernel
theorem dM_isDoneBy_6 : decode bM_isDoneBy 6 = .ok (.iconst 2, 1) := by decide +kernel
theorem dM_isDoneBy_7 : decode bM_isDoneBy 7 = .ok (.if_icmp .ne 17, 3) := by decide +kernel
theorem dM_isDoneBy_10 : decode bM_isDoneBy 10 = .ok (.aload_n 0, 1) := by decide +kernel
theorem dM_isDoneBy_11 : decode bM_isDoneBy 11 = .ok (.getfield 56, 3) := by decide +kernel
theorem dM_isDoneBy_14 : decode bM_isDoneBy 14 = .ok (.iload_n 1, 1) := by decide +kernel
theorem dM_isDoneBy_15 : decode bM_isDoneBy 15 = .ok (.iaload, 1) := by decide +kernel
theorem dM_isDoneBy_16 : decode bM_isDoneBy 16 = .ok (.iload_n 2, 1) := by decide +kernel
theorem dM_isDoneBy_17 : decode bM_isDoneBy 17 = .ok (.if_icmp .ne 7, 3) := by decide +kernel
theorem dM_isDoneBy_20 : decode bM_isDoneBy 20 = .ok (.iconst 1, 1) := by decide +kernel
theorem dM_isDoneBy_21 : decode bM_isDoneBy 21 = .ok (.goto 4, 3) := by decide +kernel
theorem dM_isDoneBy_24 : decode bM_isDoneBy 24 = .ok (.iconst 0, 1) := by decide +kernel
theorem dM_isDoneBy_25 : decode bM_isDoneBy 25 = .ok (.ireturn, 1) := by decide +kernel
theorem dM_sample_0 : decode bM_sample 0 = .ok (.iload_n 1, 1) := by decide +kernel
theorem dM_sample_1 : decode bM_sample 1 = .ok (.aload_n 0, 1) := by decide +kernel
theorem dM_sample_2 : decode bM_sample 2 = .ok (.getfield 100, 3) := by decide +kernel
theorem dM_sample_5 : decode bM_sample 5 = .ok (.invokestatic 96, 3) := by decide +kernel
theorem dM_sample_8 : decode bM_sample 8 = .ok (.ifCond .eq 23, 3) := by decide +kernel
theorem dM_sample_11 : decode bM_sample 11 = .ok (.aload_n 0, 1) := by decide +kernel
theorem dM_sample_12 : decode bM_sample 12 = .ok (.getfield 53, 3) := by decide +kernel
theorem dM_sample_15 : decode bM_sample 15 = .ok (.iload_n 1, 1) := by decide +kernel
theorem dM_sample_16 : decode bM_sample 16 = .ok (.iaload, 1) := by decide +kernel
theorem dM_sample_17 : decode bM_sample 17 = .ok (.iconst 2, 1) := by decide +kernel
theorem dM_sample_18 : decode bM_sample 18 = .ok (.if_icmp .ne 13, 3) := by decide +kernel
theorem dM_sample_21 : decode bM_sample 21 = .ok (.aload_n 0, 1) := by decide +kernel
theorem dM_sample_22 : decode bM_sample 22 = .ok (.getfield 56, 3) := by decide +kernel
theorem dM_sample_25 : decode bM_sample 25 = .ok (.iload_n 1, 1) := by decide +kernel
theorem dM_sample_26 : decode bM_sample 26 = .ok (.iaload, 1) := by decide +kernel
theorem dM_sample_27 : decode bM_sample 27 = .ok (.iconst (-1), 1) := by decide +kernel
theorem dM_sample_28 : decode bM_sample 28 = .ok (.if_icmp .ne 5, 3) := by decide +kernel
theorem dM_sample_31 : decode bM_sample 31 = .ok (.iconst (-1), 1) := by decide +kernel
theorem dM_sample_32 : decode bM_sample 32 = .ok (.ireturn, 1) := by decide +kernel
theorem dM_sample_33 : decode bM_sample 33 = .ok (.aload_n 0, 1) := by decide +kernel
theorem dM_sample_34 : decode bM_sample 34 = .ok (.getfield 56, 3) := by decide +kernel
theorem dM_sample_37 : decode bM_sample 37 = .ok (.iload_n 1, 1) := by decide +kernel
theorem dM_sample_38 : decode bM_sample 38 = .ok (.iaload, 1) := by decide +kernel
theorem dM_sample_39 : decode bM_sample 39 = .ok (.istore_n 2, 1) := by decide +kernel
theorem dM_sample_40 : decode bM_sample 40 = .ok (.aload_n 0, 1) := by decide +kernel
theorem dM_sample_41 : decode bM_sample 41 = .ok (.getfield 75, 3) := by decide +kernel
theorem dM_sample_44 : decode bM_sample 44 = .ok (.iload_n 1, 1) := by decide +kernel
theorem dM_sample_45 : decode bM_sample 45 = .ok (.laload, 1) := by decide +kernel
theorem dM_sample_46 : decode bM_sample 46 = .ok (.aload_n 0, 1) := by decide +kernel
theorem dM_sample_47 : decode bM_sample 47 = .ok (.aload_n 0, 1) := by decide +kernel
theorem dM_sample_48 : decode bM_sample 48 = .ok (.getfield 44, 3) := by decide +kernel
theorem dM_sample_51 : decode bM_sample 51 = .ok (.iload_n 2, 1) := by decide +kernel
theorem dM_sample_52 : decode bM_sample 52 = .ok (.laload, 1) := by decide +kernel
theorem dM_sample_53 : decode bM_sample 53 = .ok (.aload_n 0, 1) := by decide +kernel
theorem dM_sample_54 : decode bM_sample 54 = .ok (.getfield 72, 3) := by decide +kernel
theorem dM_sample_57 : decode bM_sample 57 = .ok (.iload_n 1, 1) := by decide +kernel
theorem dM_sample_58 : decode bM_sample 58 = .ok (.laload, 1) := by decide +kernel
theorem dM_sample_59 : decode bM_sample 59 = .ok (.invokevirtual 110, 3) := by decide +kernel
theorem dM_sample_62 : decode bM_sample 62 = .ok (.lcmp, 1) := by decide +kernel
theorem dM_sample_63 : decode bM_sample 63 = .ok (.ifCond .ne 41, 3) := by decide +kernel
theorem dM_sample_66 : decode bM_sample 66 = .ok (.aload_n 0, 1) := by decide +kernel
theorem dM_sample_67 : decode bM_sample 67 = .ok (.getfield 38, 3) := by decide +kernel
theorem dM_sample_70 : decode bM_sample 70 = .ok (.iload_n 2, 1) := by decide +kernel
theorem dM_sample_71 : decode bM_sample 71 = .ok (.aload_n 0, 1) := by decide +kernel
theorem dM_sample_72 : decode bM_sample 72 = .ok (.getfield 59, 3) := by decide +kernel
theorem dM_sample_75 : decode bM_sample 75 = .ok (.iload_n 1, 1) := by decide +kernel
theorem dM_sample_76 : decode bM_sample 76 = .ok (.iaload, 1) := by decide +kernel
theorem dM_sample_77 : decode bM_sample 77 = .ok (.aload_n 0, 1) := by decide +kernel
theorem dM_sample_78 : decode bM_sample 78 = .ok (.getfield 38, 3) := by decide +kernel
theorem dM_sample_81 : decode bM_sample 81 = .ok (.iload_n 2, 1) := by decide +kernel
theorem dM_sample_82 : decode bM_sample 82 = .ok (.iaload, 1) := by decide +kernel
theorem dM_sample_83 : decode bM_sample 83 = .ok (.if_icmp .le 12, 3) := by decide +kernel
theorem dM_sample_86 : decode bM_sample 86 = .ok (.aload_n 0, 1) := by decide +kernel
theorem dM_sample_87 : decode bM_sample 87 = .ok (.getfield 59, 3) := by decide +kernel
theorem dM_sample_90 : decode bM_sample 90 = .ok (.iload_n 1, 1) := by decide +kernel
theorem dM_sample_91 : decode bM_sample 91 = .ok (.iaload, 1) := by decide +kernel
theorem dM_sample_92 : decode bM_sample 92 = .ok (.goto 9, 3) := by decide +kernel
theorem dM_sample_95 : decode bM_sample 95 = .ok (.aload_n 0, 1) := by decide +kernel
theorem dM_sample_96 : decode bM_sample 96 = .ok (.getfield 38, 3) := by decide +kernel
theorem dM_sample_99 : decode bM_sample 99 = .ok (.iload_n 2, 1) := by decide +kernel
theorem dM_sample_100 : decode bM_sample 100 = .ok (.iaload, 1) := by decide +kernel
theorem dM_sample_101 : decode bM_sample 101 = .ok (.iastore, 1) := by decide +kernel
theorem dM_sample_102 : decode bM_sample 102 = .ok (.iconst 0, 1) := by decide +kernel
theorem dM_sample_103 : decode bM_sample 103 = .ok (.ireturn, 1) := by decide +kernel
theorem dM_sample_104 : decode bM_sample 104 = .ok (.iconst 0, 1) := by decide +kernel
theorem dM_sample_105 : decode bM_sample 105 = .ok (.istore_n 3, 1) := by decide +kernel
theorem dM_sample_106 : decode bM_sample 106 = .ok (.iconst 0, 1) := by decide +kernel
theorem dM_sample_107 : decode bM_sample 107 = .ok (.istore 4, 2) := by decide +kernel
theorem dM_sample_109 : decode bM_sample 109 = .ok (.iload 4, 2) := by decide +kernel
theorem dM_sample_111 : decode bM_sample 111 = .ok (.aload_n 0, 1) := by decide +kernel
theorem dM_sample_112 : decode bM_sample 112 = .ok (.getfield 100, 3) := by decide +kernel
theorem dM_sample_115 : decode bM_sample 115 = .ok (.if_icmp .ge 84, 3) := by decide +kernel
theorem dM_sample_118 : decode bM_sample 118 = .ok (.aload_n 0, 1) := by decide +kernel
theorem dM_sample_119 : decode bM_sample 119 = .ok (.iload 4, 2) := by decide +kernel
theorem dM_sample_121 : decode bM_sample 121 = .ok (.iload_n 2, 1) := by decide +kernel
theorem dM_sample_122 : decode bM_sample 122 = .ok (.invokevirtual 146, 3) := by decide +kernel
theorem dM_sample_125 : decode bM_sample 125 = .ok (.ifCond .eq 68, 3) := by decide +kernel
theorem dM_sample_128 : decode bM_sample 128 = .ok (.iload 4, 2) := by decide +kernel
theorem dM_sample_130 : decode bM_sample 130 = .ok (.iload_n 1, 1) := by decide +kernel
theorem dM_sample_131 : decode bM_sample 131 = .ok (.if_icmp .eq 19, 3) := by decide +kernel
theorem dM_sample_134 : decode bM_sample 134 = .ok (.aload_n 0, 1) := by decide +kernel
theorem dM_sample_135 : decode bM_sample 135 = .ok (.getfield 59, 3) := by decide +kernel
theorem dM_sample_138 : decode bM_sample 138 = .ok (.iload 4, 2) := by decide +kernel
theorem dM_sample_140 : decode bM_sample 140 = .ok (.iaload, 1) := by decide +kernel
theorem dM_sample_141 : decode bM_sample 141 = .ok (.aload_n 0, 1) := by decide +kernel
theorem dM_sample_142 : decode bM_sample 142 = .ok (.getfield 38, 3) := by decide +kernel
theorem dM_sample_145 : decode bM_sample 145 = .ok (.iload_n 2, 1) := by decide +kernel
theorem dM_sample_146 : decode bM_sample 146 = .ok (.iaload, 1) := by decide +kernel
theorem dM_sample_147 : decode bM_sample 147 = .ok (.if_icmp .le 46, 3) := by decide +kernel
theorem dM_sample_150 : decode bM_sample 150 = .ok (.aload_n 0, 1) := by decide +kernel
theorem dM_sample_151 : decode bM_sample 151 = .ok (.getfield 75, 3) := by decide +kernel
theorem dM_sample_154 : decode bM_sample 154 = .ok (.iload 4, 2) := by decide +kernel
theorem dM_sample_156 : decode bM_sample 156 = .ok (.aload_n 0, 1) := by decide +kernel
theorem dM_sample_157 : decode bM_sample 157 = .ok (.aload_n 0, 1) := by decide +kernel
theorem dM_sample_158 : decode bM_sample 158 = .ok (.getfield 44, 3) := by decide +kernel
theorem dM_sample_161 : decode bM_sample 161 = .ok (.iload_n 2, 1) := by decide +kernel
theorem dM_sample_162 : decode bM_sample 162 = .ok (.laload, 1) := by decide +kernel
theorem dM_sample_163 : decode bM_sample 163 = .ok (.aload_n 0, 1) := by decide +kernel
theorem dM_sample_164 : decode bM_sample 164 = .ok (.getfield 72, 3) := by decide +kernel
theorem dM_sample_167 : decode bM_sample 167 = .ok (.iload 4, 2) := by decide +kernel
theorem dM_sample_169 : decode bM_sample 169 = .ok (.laload, 1) := by decide +kernel
theorem dM_sample_170 : decode bM_sample 170 = .ok (.invokevirtual 110, 3) := by decide +kernel
theorem dM_sample_173 : decode bM_sample 173 = .ok (.lastore, 1) := by decide +kernel
theorem dM_sample_174 : decode bM_sample 174 = .ok (.aload_n 0, 1) := by decide +kernel
theorem dM_sample_175 : decode bM_sample 175 = .ok (.getfield 56, 3) := by decide +kernel
theorem dM_sample_178 : decode bM_sample 178 = .ok (.iload 4, 2) := by decide +kernel
theorem dM_sample_180 : decode bM_sample 180 = .ok (.iconst (-1), 1) := by decide +kernel
theorem dM_sample_181 : decode bM_sample 181 = .ok (.iastore, 1) := by decide +kernel
theorem dM_sample_182 : decode bM_sample 182 = .ok (.aload_n 0, 1) := by decide +kernel
theorem dM_sample_183 : decode bM_sample 183 = .ok (.getfield 69, 3) := by decide +kernel
theorem dM_sample_186 : decode bM_sample 186 = .ok (.iload 4, 2) := by decide +kernel
theorem dM_sample_188 : decode bM_sample 188 = .ok (.iconst 1, 1) := by decide +kernel
theorem dM_sample_189 : decode bM_sample 189 = .ok (.bastore, 1) := by decide +kernel
theorem dM_sample_190 : decode bM_sample 190 = .ok (.iinc 3 1, 3) := by decide +kernel
theorem dM_sample_193 : decode bM_sample 193 = .ok (.iinc 4 1, 3) := by decide +kernel
theorem dM_sample_196 : decode bM_sample 196 = .ok (.goto (-87), 3) := by decide +kernel
theorem dM_sample_199 : decode bM_sample 199 = .ok (.aload_n 0, 1) := by decide +kernel
theorem dM_sample_200 : decode bM_sample 200 = .ok (.getfield 23, 3) := by decide +kernel
theorem dM_sample_203 : decode bM_sample 203 = .ok (.iload_n 2, 1) := by decide +kernel
theorem dM_sample_204 : decode bM_sample 204 = .ok (.iaload, 1) := by decide +kernel
theorem dM_sample_205 : decode bM_sample 205 = .ok (.iconst 2, 1) := by decide +kernel
theorem dM_sample_206 : decode bM_sample 206 = .ok (.if_icmp .eq 39, 3) := by decide +kernel
theorem dM_sample_209 : decode bM_sample 209 = .ok (.aload_n 0, 1) := by decide +kernel
theorem dM_sample_210 : decode bM_sample 210 = .ok (.getfield 23, 3) := by decide +kernel
theorem dM_sample_213 : decode bM_sample 213 = .ok (.iload_n 2, 1) := by decide +kernel
theorem dM_sample_214 : decode bM_sample 214 = .ok (.iaload, 1) := by decide +kernel
theorem dM_sample_215 : decode bM_sample 215 = .ok (.iconst 1, 1) := by decide +kernel
theorem dM_sample_216 : decode bM_sample 216 = .ok (.if_icmp .ne 7, 3) := by decide +kernel
theorem dM_sample_219 : decode bM_sample 219 = .ok (.iconst 1, 1) := by decide +kernel
theorem dM_sample_220 : decode bM_sample 220 = .ok (.goto 4, 3) := by decide +kernel
theorem dM_sample_223 : decode bM_sample 223 = .ok (.iconst 0, 1) := by decide +kernel
theorem dM_sample_224 : decode bM_sample 224 = .ok (.istore 4, 2) := by decide +kernel
theorem dM_sample_226 : decode bM_sample 226 = .ok (.aload_n 0, 1) := by decide +kernel
theorem dM_sample_227 : decode bM_sample 227 = .ok (.iload_n 2, 1) := by decide +kernel
theorem dM_sample_228 : decode bM_sample 228 = .ok (.iconst 5, 1) := by decide +kernel
theorem dM_sample_229 : decode bM_sample 229 = .ok (.invokevirtual 137, 3) := by decide +kernel
theorem dM_sample_232 : decode bM_sample 232 = .ok (.istore 5, 2) := by decide +kernel
theorem dM_sample_234 : decode bM_sample 234 = .ok (.iload 4, 2) := by decide +kernel
theorem dM_sample_236 : decode bM_sample 236 = .ok (.ifCond .eq 9, 3) := by decide +kernel
theorem dM_sample_239 : decode bM_sample 239 = .ok (.aload_n 0, 1) := by decide +kernel
theorem dM_sample_240 : decode bM_sample 240 = .ok (.iload 5, 2) := by decide +kernel
theorem dM_sample_242 : decode bM_sample 242 = .ok (.invokevirtual 141, 3) := by decide +kernel
theorem dM_sample_245 : decode bM_sample 245 = .ok (.aload_n 0, 1) := by decide +kernel
theorem dM_sample_246 : decode bM_sample 246 = .ok (.getfield 17, 3) := by decide +kernel
theorem dM_sample_249 : decode bM_sample 249 = .ok (.aload_n 0, 1) := by decide +kernel
theorem dM_sample_250 : decode bM_sample 250 = .ok (.getfield 20, 3) := by decide +kernel
theorem dM_sample_253 : decode bM_sample 253 = .ok (.iload_n 2, 1) := by decide +kernel
theorem dM_sample_254 : decode bM_sample 254 = .ok (.iaload, 1) := by decide +kernel
theorem dM_sample_255 : decode bM_sample 255 = .ok (.dup2, 1) := by decide +kernel
theorem dM_sample_256 : decode bM_sample 256 = .ok (.iaload, 1) := by decide +kernel
theorem dM_sample_257 : decode bM_sample 257 = .ok (.iconst 1, 1) := by decide +kernel
theorem dM_sample_258 : decode bM_sample 258 = .ok (.iadd, 1) := by decide +kernel
theorem dM_sample_259 : decode bM_sample 259 = .ok (.iastore, 1) := by decide +kernel
theorem dM_sample_260 : decode bM_sample 260 = .ok (.iload_n 3, 1) := by decide +kernel
theorem dM_sample_261 : decode bM_sample 261 = .ok (.ireturn, 1) := by decide +kernel
theorem dM_about_0 : decode bM_about 0 = .ok (.iload_n 1, 1) := by decide +kernel
theorem dM_about_1 : decode bM_about 1 = .ok (.aload_n 0, 1) := by decide +kernel
theorem dM_about_2 : decode bM_about 2 = .ok (.getfield 100, 3) := by decide +kernel
theorem dM_about_5 : decode bM_about 5 = .ok (.invokestatic 96, 3) := by decide +kernel
theorem dM_about_8 : decode bM_about 8 = .ok (.ifCond .ne 5, 3) := by decide +kernel
theorem dM_about_11 : decode bM_about 11 = .ok (.iconst (-1), 1) := by decide +kernel
theorem dM_about_12 : decode bM_about 12 = .ok (.ireturn, 1) := by decide +kernel
theorem dM_about_13 : decode bM_about 13 = .ok (.iload_n 2, 1) := by decide +kernel
theorem dM_about_14 : decode bM_about 14 = .ok (.tableswitch 85 0 4 #[34, 41, 48, 55, 70], 34) := by decide +kernel
theorem dM_about_48 : decode bM_about 48 = .ok (.aload_n 0, 1) := by decide +kernel
theorem dM_about_49 : decode bM_about 49 = .ok (.getfield 53, 3) := by decide +kernel
theorem dM_about_52 : decode bM_about 52 = .ok (.iload_n 1, 1) := by decide +kernel
theorem dM_about_53 : decode bM_about 53 = .ok (.iaload, 1) := by decide +kernel
theorem dM_about_54 : decode bM_about 54 = .ok (.ireturn, 1) := by decide +kernel
theorem dM_about_55 : decode bM_about 55 = .ok (.aload_n 0, 1) := by decide +kernel
theorem dM_about_56 : decode bM_about 56 = .ok (.getfield 56, 3) := by decide +kernel
theorem dM_about_59 : decode bM_about 59 = .ok (.iload_n 1, 1) := by decide +kernel
theorem dM_about_60 : decode bM_about 60 = .ok (.iaload, 1) := by decide +kernel
theorem dM_about_61 : decode bM_about 61 = .ok (.ireturn, 1) := by decide +kernel
theorem dM_about_62 : decode bM_about 62 = .ok (.aload_n 0, 1) := by decide +kernel
theorem dM_about_63 : decode bM_about 63 = .ok (.getfield 62, 3) := by decide +kernel
theorem dM_about_66 : decode bM_about 66 = .ok (.iload_n 1, 1) := by decide +kernel
theorem dM_about_67 : decode bM_about 67 = .ok (.iaload, 1) := by decide +kernel
theorem dM_about_68 : decode bM_about 68 = .ok (.ireturn, 1) := by decide +kernel
theorem dM_about_69 : decode bM_about 69 = .ok (.aload_n 0, 1) := by decide +kernel
theorem dM_about_70 : decode bM_about 70 = .ok (.getfield 65, 3) := by decide +kernel
theorem dM_about_73 : decode bM_about 73 = .ok (.iload_n 1, 1) := by decide +kernel
theorem dM_about_74 : decode bM_about 74 = .ok (.baload, 1) := by decide +kernel
theorem dM_about_75 : decode bM_about 75 = .ok (.ifCond .eq 7, 3) := by decide +kernel
theorem dM_about_78 : decode bM_about 78 = .ok (.iconst 1, 1) := by decide +kernel
theorem dM_about_79 : decode bM_about 79 = .ok (.goto 4, 3) := by decide +kernel
theorem dM_about_82 : decode bM_about 82 = .ok (.iconst 0, 1) := by decide +kernel
theorem dM_about_83 : decode bM_about 83 = .ok (.ireturn, 1) := by decide +kernel
theorem dM_about_84 : decode bM_about 84 = .ok (.aload_n 0, 1) := by decide +kernel
theorem dM_about_85 : decode bM_about 85 = .ok (.getfield 69, 3) := by decide +kernel
theorem dM_about_88 : decode bM_about 88 = .ok (.iload_n 1, 1) := by decide +kernel
theorem dM_about_89 : decode bM_about 89 = .ok (.baload, 1) := by decide +kernel
theorem dM_about_90 : decode bM_about 90 = .ok (.ifCond .eq 7, 3) := by decide +kernel
theorem dM_about_93 : decode bM_about 93 = .ok (.iconst 1, 1) := by decide +kernel
theorem dM_about_94 : decode bM_about 94 = .ok (.goto 4, 3) := by decide +kernel
theorem dM_about_97 : decode bM_about 97 = .ok (.iconst 0, 1) := by decide +kernel
theorem dM_about_98 : decode bM_about 98 = .ok (.ireturn, 1) := by decide +kernel
theorem dM_about_99 : decode bM_about 99 = .ok (.iconst (-1), 1) := by decide +kernel
theorem dM_about_100 : decode bM_about 100 = .ok (.ireturn, 1) := by decide +kernel
theorem dM_result_0 : decode bM_result 0 = .ok (.iload_n 1, 1) := by decide +kernel
theorem dM_result_1 : decode bM_result 1 = .ok (.aload_n 0, 1) := by decide +kernel
theorem dM_result_2 : decode bM_result 2 = .ok (.getfield 100, 3) := by decide +kernel
theorem dM_result_5 : decode bM_result 5 = .ok (.invokestatic 96, 3) := by decide +kernel
theorem dM_result_8 : decode bM_result 8 = .ok (.ifCond .eq 22, 3) := by decide +kernel
theorem dM_result_11 : decode bM_result 11 = .ok (.aload_n 0, 1) := by decide +kernel
theorem dM_result_12 : decode bM_result 12 = .ok (.getfield 53, 3) := by decide +kernel
theorem dM_result_15 : decode bM_result 15 = .ok (.iload_n 1, 1) := by decide +kernel
theorem dM_result_16 : decode bM_result 16 = .ok (.iaload, 1) := by decide +kernel
theorem dM_result_17 : decode bM_result 17 = .ok (.iconst 2, 1) := by decide +kernel
theorem dM_result_18 : decode bM_result 18 = .ok (.if_icmp .ne 12, 3) := by decide +kernel
theorem dM_result_21 : decode bM_result 21 = .ok (.aload_n 0, 1) := by decide +kernel
theorem dM_result_22 : decode bM_result 22 = .ok (.getfield 75, 3) := by decide +kernel
theorem dM_result_25 : decode bM_result 25 = .ok (.iload_n 1, 1) := by decide +kernel
theorem dM_result_26 : decode bM_result 26 = .ok (.laload, 1) := by decide +kernel
theorem dM_result_27 : decode bM_result 27 = .ok (.goto 4, 3) := by decide +kernel
theorem dM_result_30 : decode bM_result 30 = .ok (.lconst 0, 1) := by decide +kernel
theorem dM_result_31 : decode bM_result 31 = .ok (.lreturn, 1) := by decide +kernel
theorem dM_worker_0 : decode bM_worker 0 = .ok (.iload_n 1, 1) := by decide +kernel
theorem dM_worker_1 : decode bM_worker 1 = .ok (.aload_n 0, 1) := by decide +kernel
theorem dM_worker_2 : decode bM_worker 2 = .ok (.getfield 107, 3) := by decide +kernel
theorem dM_worker_5 : decode bM_worker 5 = .ok (.invokestatic 96, 3) := by decide +kernel
theorem dM_worker_8 : decode bM_worker 8 = .ok (.ifCond .ne 5, 3) := by decide +kernel
theorem dM_worker_11 : decode bM_worker 11 = .ok (.iconst (-1), 1) := by decide +kernel
theorem dM_worker_12 : decode bM_worker 12 = .ok (.ireturn, 1) := by decide +kernel
theorem dM_worker_13 : decode bM_worker 13 = .ok (.iload_n 2, 1) := by decide +kernel
theorem dM_worker_14 : decode bM_worker 14 = .ok (.tableswitch 105 0 6 #[42, 49, 56, 63, 70, 91, 98], 42) := by decide +kernel
theorem dM_worker_56 : decode bM_worker 56 = .ok (.aload_n 0, 1) := by decide +kernel
theorem dM_worker_57 : decode bM_worker 57 = .ok (.getfield 20, 3) := by decide +kernel
theorem dM_worker_60 : decode bM_worker 60 = .ok (.iload_n 1, 1) := by decide +kernel
theorem dM_worker_61 : decode bM_worker 61 = .ok (.iaload, 1) := by decide +kernel
theorem dM_worker_62 : decode bM_worker 62 = .ok (.ireturn, 1) := by decide +kernel
theorem dM_worker_63 : decode bM_worker 63 = .ok (.aload_n 0, 1) := by decide +kernel
theorem dM_worker_64 : decode bM_worker 64 = .ok (.getfield 23, 3) := by decide +kernel
theorem dM_worker_67 : decode bM_worker 67 = .ok (.iload_n 1, 1) := by decide +kernel
theorem dM_worker_68 : decode bM_worker 68 = .ok (.iaload, 1) := by decide +kernel
theorem dM_worker_69 : decode bM_worker 69 = .ok (.ireturn, 1) := by decide +kernel
theorem dM_worker_70 : decode bM_worker 70 = .ok (.aload_n 0, 1) := by decide +kernel
theorem dM_worker_71 : decode bM_worker 71 = .ok (.getfield 26, 3) := by decide +kernel
theorem dM_worker_74 : decode bM_worker 74 = .ok (.iload_n 1, 1) := by decide +kernel
theorem dM_worker_75 : decode bM_worker 75 = .ok (.iaload, 1) := by decide +kernel
theorem dM_worker_76 : decode bM_worker 76 = .ok (.ireturn, 1) := by decide +kernel
theorem dM_worker_77 : decode bM_worker 77 = .ok (.aload_n 0, 1) := by decide +kernel
theorem dM_worker_78 : decode bM_worker 78 = .ok (.getfield 29, 3) := by decide +kernel
theorem dM_worker_81 : decode bM_worker 81 = .ok (.iload_n 1, 1) := by decide +kernel
theorem dM_worker_82 : decode bM_worker 82 = .ok (.iaload, 1) := by decide +kernel
theorem dM_worker_83 : decode bM_worker 83 = .ok (.ireturn, 1) := by decide +kernel
theorem dM_worker_84 : decode bM_worker 84 = .ok (.aload_n 0, 1) := by decide +kernel
theorem dM_worker_85 : decode bM_worker 85 = .ok (.getfield 23, 3) := by decide +kernel
theorem dM_worker_88 : decode bM_worker 88 = .ok (.iload_n 1, 1) := by decide +kernel
theorem dM_worker_89 : decode bM_worker 89 = .ok (.iaload, 1) := by decide +kernel
theorem dM_worker_90 : decode bM_worker 90 = .ok (.iconst 1, 1) := by decide +kernel
theorem dM_worker_91 : decode bM_worker 91 = .ok (.if_icmp .ne 12, 3) := by decide +kernel
theorem dM_worker_94 : decode bM_worker 94 = .ok (.aload_n 0, 1) := by decide +kernel
theorem dM_worker_95 : decode bM_worker 95 = .ok (.getfield 32, 3) := by decide +kernel
theorem dM_worker_98 : decode bM_worker 98 = .ok (.iload_n 1, 1) := by decide +kernel
theorem dM_worker_99 : decode bM_worker 99 = .ok (.iaload, 1) := by decide +kernel
theorem dM_worker_100 : decode bM_worker 100 = .ok (.goto 4, 3) := by decide +kernel
theorem dM_worker_103 : decode bM_worker 103 = .ok (.iconst (-1), 1) := by decide +kernel
theorem dM_worker_104 : decode bM_worker 104 = .ok (.ireturn, 1) := by decide +kernel
theorem dM_worker_105 : decode bM_worker 105 = .ok (.aload_n 0, 1) := by decide +kernel
theorem dM_worker_106 : decode bM_worker 106 = .ok (.getfield 35, 3) := by decide +kernel
theorem dM_worker_109 : decode bM_worker 109 = .ok (.iload_n 1, 1) := by decide +kernel
theorem dM_worker_110 : decode bM_worker 110 = .ok (.iaload, 1) := by decide +kernel
theorem dM_worker_111 : decode bM_worker 111 = .ok (.ireturn, 1) := by decide +kernel
theorem dM_worker_112 : decode bM_worker 112 = .ok (.aload_n 0, 1) := by decide +kernel
theorem dM_worker_113 : decode bM_worker 113 = .ok (.getfield 38, 3) := by decide +kernel
theorem dM_worker_116 : decode bM_worker 116 = .ok (.iload_n 1, 1) := by decide +kernel
theorem dM_worker_117 : decode bM_worker 117 = .ok (.iaload, 1) := by decide +kernel
theorem dM_worker_118 : decode bM_worker 118 = .ok (.ireturn, 1) := by decide +kernel
theorem dM_worker_119 : decode bM_worker 119 = .ok (.iconst (-1), 1) := by decide +kernel
theorem dM_worker_120 : decode bM_worker 120 = .ok (.ireturn, 1) := by decide +kernel
theorem dM_bars_0 : decode bM_bars 0 = .ok (.iload_n 1, 1) := by decide +kernel
theorem dM_bars_1 : decode bM_bars 1 = .ok (.aload_n 0, 1) := by decide +kernel
theorem dM_bars_2 : decode bM_bars 2 = .ok (.getfield 93, 3) := by decide +kernel
theorem dM_bars_5 : decode bM_bars 5 = .ok (.invokestatic 96, 3) := by decide +kernel
theorem dM_bars_8 : decode bM_bars 8 = .ok (.ifCond .eq 12, 3) := by decide +kernel
theorem dM_bars_11 : decode bM_bars 11 = .ok (.aload_n 0, 1) := by decide +kernel
theorem dM_bars_12 : decode bM_bars 12 = .ok (.getfield 17, 3) := by decide +kernel
theorem dM_bars_15 : decode bM_bars 15 = .ok (.iload_n 1, 1) := by decide +kernel
theorem dM_bars_16 : decode bM_bars 16 = .ok (.iaload, 1) := by decide +kernel
theorem dM_bars_17 : decode bM_bars 17 = .ok (.goto 4, 3) := by decide +kernel
theorem dM_bars_20 : decode bM_bars 20 = .ok (.iconst (-1), 1) := by decide +kernel
theorem dM_bars_21 : decode bM_bars 21 = .ok (.ireturn, 1) := by decide +kernel
theorem dM_oneShot_0 : decode bM_oneShot 0 = .ok (.lload_n 1, 1) := by decide +kernel
theorem dM_oneShot_1 : decode bM_oneShot 1 = .ok (.lload_n 3, 1) := by decide +kernel
theorem dM_oneShot_2 : decode bM_oneShot 2 = .ok (.lxor, 1) := by decide +kernel
theorem dM_oneShot_3 : decode bM_oneShot 3 = .ok (.lstore 5, 2) := by decide +kernel
theorem dM_oneShot_5 : decode bM_oneShot 5 = .ok (.iconst 0, 1) := by decide +kernel
theorem dM_oneShot_6 : decode bM_oneShot 6 = .ok (.istore 7, 2) := by decide +kernel
theorem dM_oneShot_8 : decode bM_oneShot 8 = .ok (.iload 7, 2) := by decide +kernel
theorem dM_oneShot_10 : decode bM_oneShot 10 = .ok (.iconst 2, 1) := by decide +kernel
theorem dM_oneShot_11 : decode bM_oneShot 11 = .ok (.if_icmp .ge 23, 3) := by decide +kernel
theorem dM_oneShot_14 : decode bM_oneShot 14 = .ok (.lload 5, 2) := by decide +kernel
theorem dM_oneShot_16 : decode bM_oneShot 16 = .ok (.lload 5, 2) := by decide +kernel
theorem dM_oneShot_18 : decode bM_oneShot 18 = .ok (.bipush 31, 2) := by decide +kernel
theorem dM_oneShot_20 : decode bM_oneShot 20 = .ok (.lushr, 1) := by decide +kernel
theorem dM_oneShot_21 : decode bM_oneShot 21 = .ok (.lxor, 1) := by decide +kernel
theorem dM_oneShot_22 : decode bM_oneShot 22 = .ok (.ldc2_w 149, 3) := by decide +kernel
theorem dM_oneShot_25 : decode bM_oneShot 25 = .ok (.lmul, 1) := by decide +kernel
theorem dM_oneShot_26 : decode bM_oneShot 26 = .ok (.lstore 5, 2) := by decide +kernel
theorem dM_oneShot_28 : decode bM_oneShot 28 = .ok (.iinc 7 1, 3) := by decide +kernel
theorem dM_oneShot_31 : decode bM_oneShot 31 = .ok (.goto (-23), 3) := by decide +kernel
theorem dM_oneShot_34 : decode bM_oneShot 34 = .ok (.lload 5, 2) := by decide +kernel
theorem dM_oneShot_36 : decode bM_oneShot 36 = .ok (.lload_n 3, 1) := by decide +kernel
theorem dM_oneShot_37 : decode bM_oneShot 37 = .ok (.ladd, 1) := by decide +kernel
theorem dM_oneShot_38 : decode bM_oneShot 38 = .ok (.lreturn, 1) := by decide +kernel
end
section
theorem dL_cell_0 : decode bL_cell 0 = .ok (.iload_n 1, 1) := by decide +kernel
theorem dL_cell_1 : decode bL_cell 1 = .ok (.aload_n 0, 1) := by decide +kernel
theorem dL_cell_2 : decode bL_cell 2 = .ok (.arraylength, 1) := by decide +kernel
theorem dL_cell_3 : decode bL_cell 3 = .ok (.if_icmp .ge 9, 3) := by decide +kernel
theorem dL_cell_6 : decode bL_cell 6 = .ok (.aload_n 0, 1) := by decide +kernel
theorem dL_cell_7 : decode bL_cell 7 = .ok (.iload_n 1, 1) := by decide +kernel
theorem dL_cell_8 : decode bL_cell 8 = .ok (.iaload, 1) := by decide +kernel
theorem dL_cell_9 : decode bL_cell 9 = .ok (.goto 4, 3) := by decide +kernel
theorem dL_cell_12 : decode bL_cell 12 = .ok (.iconst 0, 1) := by decide +kernel
theorem dL_cell_13 : decode bL_cell 13 = .ok (.ireturn, 1) := by decide +kernel
theorem dL_law_0 : decode bL_law 0 = .ok (.new 7, 3) := by decide +kernel
theorem dL_law_3 : decode bL_law 3 = .ok (.dup, 1) := by decide +kernel
theorem dL_law_4 : decode bL_law 4 = .ok (.aload_n 0, 1) := by decide +kernel
theorem dL_law_5 : decode bL_law 5 = .ok (.iconst 0, 1) := by decide +kernel
theorem dL_law_6 : decode bL_law 6 = .ok (.invokestatic 9, 3) := by decide +kernel
theorem dL_law_9 : decode bL_law 9 = .ok (.aload_n 0, 1) := by decide +kernel
theorem dL_law_10 : decode bL_law 10 = .ok (.iconst 1, 1) := by decide +kernel
theorem dL_law_11 : decode bL_law 11 = .ok (.invokestatic 9, 3) := by decide +kernel
theorem dL_law_14 : decode bL_law 14 = .ok (.aload_n 0, 1) := by decide +kernel
theorem dL_law_15 : decode bL_law 15 = .ok (.iconst 2, 1) := by decide +kernel
theorem dL_law_16 : decode bL_law 16 = .ok (.invokestatic 9, 3) := by decide +kernel
theorem dL_law_19 : decode bL_law 19 = .ok (.invokespecial 15, 3) := by decide +kernel
theorem dL_law_22 : decode bL_law 22 = .ok (.astore_n 1, 1) := by decide +kernel
theorem dL_law_23 : decode bL_law 23 = .ok (.new 18, 3) := by decide +kernel
theorem dL_law_26 : decode bL_law 26 = .ok (.dup, 1) := by decide +kernel
theorem dL_law_27 : decode bL_law 27 = .ok (.aload_n 0, 1) := by decide +kernel
theorem dL_law_28 : decode bL_law 28 = .ok (.iconst 0, 1) := by decide +kernel
theorem dL_law_29 : decode bL_law 29 = .ok (.invokestatic 9, 3) := by decide +kernel
theorem dL_law_32 : decode bL_law 32 = .ok (.aload_n 0, 1) := by decide +kernel
theorem dL_law_33 : decode bL_law 33 = .ok (.iconst 1, 1) := by decide +kernel
theorem dL_law_34 : decode bL_law 34 = .ok (.invokestatic 9, 3) := by decide +kernel
theorem dL_law_37 : decode bL_law 37 = .ok (.aload_n 0, 1) := by decide +kernel
theorem dL_law_38 : decode bL_law 38 = .ok (.iconst 2, 1) := by decide +kernel
theorem dL_law_39 : decode bL_law 39 = .ok (.invokestatic 9, 3) := by decide +kernel
theorem dL_law_42 : decode bL_law 42 = .ok (.invokespecial 20, 3) := by decide +kernel
theorem dL_law_45 : decode bL_law 45 = .ok (.astore_n 2, 1) := by decide +kernel
theorem dL_law_46 : decode bL_law 46 = .ok (.iconst 3, 1) := by decide +kernel
theorem dL_law_47 : decode bL_law 47 = .ok (.istore_n 3, 1) := by decide +kernel
theorem dL_law_48 : decode bL_law 48 = .ok (.iload_n 3, 1) := by decide +kernel
theorem dL_law_49 : decode bL_law 49 = .ok (.aload_n 0, 1) := by decide +kernel
theorem dL_law_50 : decode bL_law 50 = .ok (.arraylength, 1) := by decide +kernel
theorem dL_law_51 : decode bL_law 51 = .ok (.iconst 5, 1) := by decide +kernel
theorem dL_law_52 : decode bL_law 52 = .ok (.isub, 1) := by decide +kernel
theorem dL_law_53 : decode bL_law 53 = .ok (.if_icmp .gt 656, 3) := by decide +kernel
theorem dL_law_56 : decode bL_law 56 = .ok (.aload_n 0, 1) := by decide +kernel
theorem dL_law_57 : decode bL_law 57 = .ok (.iload_n 3, 1) := by decide +kernel
theorem dL_law_58 : decode bL_law 58 = .ok (.iaload, 1) := by decide +kernel
theorem dL_law_59 : decode bL_law 59 = .ok (.bipush 15, 2) := by decide +kernel
theorem dL_law_61 : decode bL_law 61 = .ok (.iand, 1) := by decide +kernel
theorem dL_law_62 : decode bL_law 62 = .ok (.tableswitch 641 0 14 #[74, 137, 200, 233, 306, 329, 342, 365, 388, 411, 434, 467, 491, 524, 547], 74) := by decide +kernel
theorem dL_law_136 : decode bL_law 136 = .ok (.aload_n 1, 1) := by decide +kernel
theorem dL_law_137 : decode bL_law 137 = .ok (.aload_n 0, 1) := by decide +kernel
theorem dL_law_138 : decode bL_law 138 = .ok (.iload_n 3, 1) := by decide +kernel
theorem dL_law_139 : decode bL_law 139 = .ok (.iconst 1, 1) := by decide +kernel
theorem dL_law_140 : decode bL_law 140 = .ok (.iadd, 1) := by decide +kernel
theorem dL_law_141 : decode bL_law 141 = .ok (.iaload, 1) := by decide +kernel
theorem dL_law_142 : decode bL_law 142 = .ok (.i2l, 1) := by decide +kernel
theorem dL_law_143 : decode bL_law 143 = .ok (.bipush 32, 2) := by decide +kernel
theorem dL_law_145 : decode bL_law 145 = .ok (.lshl, 1) := by decide +kernel
theorem dL_law_146 : decode bL_law 146 = .ok (.aload_n 0, 1) := by decide +kernel
theorem dL_law_147 : decode bL_law 147 = .ok (.iload_n 3, 1) := by decide +kernel
theorem dL_law_148 : decode bL_law 148 = .ok (.iconst 2, 1) := by decide +kernel
theorem dL_law_149 : decode bL_law 149 = .ok (.iadd, 1) := by decide +kernel
theorem dL_law_150 : decode bL_law 150 = .ok (.iaload, 1) := by decide +kernel
theorem dL_law_151 : decode bL_law 151 = .ok (.i2l, 1) := by decide +kernel
theorem dL_law_152 : decode bL_law 152 = .ok (.ldc2_w 21, 3) := by decide +kernel
theorem dL_law_155 : decode bL_law 155 = .ok (.land, 1) := by decide +kernel
theorem dL_law_156 : decode bL_law 156 = .ok (.lor, 1) := by decide +kernel
theorem dL_law_157 : decode bL_law 157 = .ok (.aload_n 0, 1) := by decide +kernel
theorem dL_law_158 : decode bL_law 158 = .ok (.iload_n 3, 1) := by decide +kernel
theorem dL_law_159 : decode bL_law 159 = .ok (.iconst 3, 1) := by decide +kernel
theorem dL_law_160 : decode bL_law 160 = .ok (.iadd, 1) := by decide +kernel
theorem dL_law_161 : decode bL_law 161 = .ok (.iaload, 1) := by decide +kernel
theorem dL_law_162 : decode bL_law 162 = .ok (.invokevirtual 23, 3) := by decide +kernel
theorem dL_law_165 : decode bL_law 165 = .ok (.aload_n 2, 1) := by decide +kernel
theorem dL_law_166 : decode bL_law 166 = .ok (.aload_n 0, 1) := by decide +kernel
theorem dL_law_167 : decode bL_law 167 = .ok (.iload_n 3, 1) := by decide +kernel
theorem dL_law_168 : decode bL_law 168 = .ok (.iconst 1, 1) := by decide +kernel
theorem dL_law_169 : decode bL_law 169 = .ok (.iadd, 1) := by decide +kernel
theorem dL_law_170 : decode bL_law 170 = .ok (.iaload, 1) := by decide +kernel
theorem dL_law_171 : decode bL_law 171 = .ok (.i2l, 1) := by decide +kernel
theorem dL_law_172 : decode bL_law 172 = .ok (.bipush 32, 2) := by decide +kernel
theorem dL_law_174 : decode bL_law 174 = .ok (.lshl, 1) := by decide +kernel
theorem dL_law_175 : decode bL_law 175 = .ok (.aload_n 0, 1) := by decide +kernel
theorem dL_law_176 : decode bL_law 176 = .ok (.iload_n 3, 1) := by decide +kernel
theorem dL_law_177 : decode bL_law 177 = .ok (.iconst 2, 1) := by decide +kernel
theorem dL_law_178 : decode bL_law 178 = .ok (.iadd, 1) := by decide +kernel
theorem dL_law_179 : decode bL_law 179 = .ok (.iaload, 1) := by decide +kernel
theorem dL_law_180 : decode bL_law 180 = .ok (.i2l, 1) := by decide +kernel
theorem dL_law_181 : decode bL_law 181 = .ok (.ldc2_w 21, 3) := by decide +kernel
theorem dL_law_184 : decode bL_law 184 = .ok (.land, 1) := by decide +kernel
theorem dL_law_185 : decode bL_law 185 = .ok (.lor, 1) := by decide +kernel
theorem dL_law_186 : decode bL_law 186 = .ok (.aload_n 0, 1) := by decide +kernel
theorem dL_law_187 : decode bL_law 187 = .ok (.iload_n 3, 1) := by decide +kernel
theorem dL_law_188 : decode bL_law 188 = .ok (.iconst 3, 1) := by decide +kernel
theorem dL_law_189 : decode bL_law 189 = .ok (.iadd, 1) := by decide +kernel
theorem dL_law_190 : decode bL_law 190 = .ok (.iaload, 1) := by decide +kernel
theorem dL_law_191 : decode bL_law 191 = .ok (.invokevirtual 27, 3) := by decide +kernel
theorem dL_law_194 : decode bL_law 194 = .ok (.if_icmp .eq 509, 3) := by decide +kernel
theorem dL_law_197 : decode bL_law 197 = .ok (.iconst 0, 1) := by decide +kernel
theorem dL_law_198 : decode bL_law 198 = .ok (.ireturn, 1) := by decide +kernel
theorem dL_law_199 : decode bL_law 199 = .ok (.aload_n 1, 1) := by decide +kernel
theorem dL_law_200 : decode bL_law 200 = .ok (.aload_n 0, 1) := by decide +kernel
theorem dL_law_201 : decode bL_law 201 = .ok (.iload_n 3, 1) := by decide +kernel
theorem dL_law_202 : decode bL_law 202 = .ok (.iconst 1, 1) := by decide +kernel
theorem dL_law_203 : decode bL_law 203 = .ok (.iadd, 1) := by decide +kernel
theorem dL_law_204 : decode bL_law 204 = .ok (.iaload, 1) := by decide +kernel
theorem dL_law_205 : decode bL_law 205 = .ok (.aload_n 0, 1) := by decide +kernel
theorem dL_law_206 : decode bL_law 206 = .ok (.iload_n 3, 1) := by decide +kernel
theorem dL_law_207 : decode bL_law 207 = .ok (.iconst 2, 1) := by decide +kernel
theorem dL_law_208 : decode bL_law 208 = .ok (.iadd, 1) := by decide +kernel
theorem dL_law_209 : decode bL_law 209 = .ok (.iaload, 1) := by decide +kernel
theorem dL_law_210 : decode bL_law 210 = .ok (.i2l, 1) := by decide +kernel
theorem dL_law_211 : decode bL_law 211 = .ok (.bipush 32, 2) := by decide +kernel
theorem dL_law_213 : decode bL_law 213 = .ok (.lshl, 1) := by decide +kernel
theorem dL_law_214 : decode bL_law 214 = .ok (.aload_n 0, 1) := by decide +kernel
theorem dL_law_215 : decode bL_law 215 = .ok (.iload_n 3, 1) := by decide +kernel
theorem dL_law_216 : decode bL_law 216 = .ok (.iconst 3, 1) := by decide +kernel
theorem dL_law_217 : decode bL_law 217 = .ok (.iadd, 1) := by decide +kernel
theorem dL_law_218 : decode bL_law 218 = .ok (.iaload, 1) := by decide +kernel
theorem dL_law_219 : decode bL_law 219 = .ok (.i2l, 1) := by decide +kernel
theorem dL_law_220 : decode bL_law 220 = .ok (.ldc2_w 21, 3) := by decide +kernel
theorem dL_law_223 : decode bL_law 223 = .ok (.land, 1) := by decide +kernel
theorem dL_law_224 : decode bL_law 224 = .ok (.lor, 1) := by decide +kernel
theorem dL_law_225 : decode bL_law 225 = .ok (.invokevirtual 28, 3) := by decide +kernel
theorem dL_law_228 : decode bL_law 228 = .ok (.aload_n 2, 1) := by decide +kernel
theorem dL_law_229 : decode bL_law 229 = .ok (.aload_n 0, 1) := by decide +kernel
theorem dL_law_230 : decode bL_law 230 = .ok (.iload_n 3, 1) := by decide +kernel
theorem dL_law_231 : decode bL_law 231 = .ok (.iconst 1, 1) := by decide +kernel
theorem dL_law_232 : decode bL_law 232 = .ok (.iadd, 1) := by decide +kernel
theorem dL_law_233 : decode bL_law 233 = .ok (.iaload, 1) := by decide +kernel
theorem dL_law_234 : decode bL_law 234 = .ok (.aload_n 0, 1) := by decide +kernel
theorem dL_law_235 : decode bL_law 235 = .ok (.iload_n 3, 1) := by decide +kernel
theorem dL_law_236 : decode bL_law 236 = .ok (.iconst 2, 1) := by decide +kernel
theorem dL_law_237 : decode bL_law 237 = .ok (.iadd, 1) := by decide +kernel
theorem dL_law_238 : decode bL_law 238 = .ok (.iaload, 1) := by decide +kernel
theorem dL_law_239 : decode bL_law 239 = .ok (.i2l, 1) := by decide +kernel
theorem dL_law_240 : decode bL_law 240 = .ok (.bipush 32, 2) := by decide +kernel
theorem dL_law_242 : decode bL_law 242 = .ok (.lshl, 1) := by decide +kernel
theorem dL_law_243 : decode bL_law 243 = .ok (.aload_n 0, 1) := by decide +kernel
theorem dL_law_244 : decode bL_law 244 = .ok (.iload_n 3, 1) := by decide +kernel
theorem dL_law_245 : decode bL_law 245 = .ok (.iconst 3, 1) := by decide +kernel
theorem dL_law_246 : decode bL_law 246 = .ok (.iadd, 1) := by decide +kernel
theorem dL_law_247 : decode bL_law 247 = .ok (.iaload, 1) := by decide +kernel
theorem dL_law_248 : decode bL_law 248 = .ok (.i2l, 1) := by decide +kernel
theorem dL_law_249 : decode bL_law 249 = .ok (.ldc2_w 21, 3) := by decide +kernel
theorem dL_law_252 : decode bL_law 252 = .ok (.land, 1) := by decide +kernel
theorem dL_law_253 : decode bL_law 253 = .ok (.lor, 1) := by decide +kernel
theorem dL_law_254 : decode bL_law 254 = .ok (.invokevirtual 32, 3) := by decide +kernel
theorem dL_law_257 : decode bL_law 257 = .ok (.if_icmp .eq 446, 3) := by decide +kernel
theorem dL_law_260 : decode bL_law 260 = .ok (.iconst 0, 1) := by decide +kernel
theorem dL_law_261 : decode bL_law 261 = .ok (.ireturn, 1) := by decide +kernel
theorem dL_law_262 : decode bL_law 262 = .ok (.aload_n 1, 1) := by decide +kernel
theorem dL_law_263 : decode bL_law 263 = .ok (.aload_n 0, 1) := by decide +kernel
theorem dL_law_264 : decode bL_law 264 = .ok (.iload_n 3, 1) := by decide +kernel
theorem dL_law_265 : decode bL_law 265 = .ok (.iconst 1, 1) := by decide +kernel
theorem dL_law_266 : decode bL_law 266 = .ok (.iadd, 1) := by decide +kernel
theorem dL_law_267 : decode bL_law 267 = .ok (.iaload, 1) := by decide +kernel
theorem dL_law_268 : decode bL_law 268 = .ok (.aload_n 0, 1) := by decide +kernel
theorem dL_law_269 : decode bL_law 269 = .ok (.iload_n 3, 1) := by decide +kernel
theorem dL_law_270 : decode bL_law 270 = .ok (.iconst 2, 1) := by decide +kernel
theorem dL_law_271 : decode bL_law 271 = .ok (.iadd, 1) := by decide +kernel
theorem dL_law_272 : decode bL_law 272 = .ok (.iaload, 1) := by decide +kernel
theorem dL_law_273 : decode bL_law 273 = .ok (.invokevirtual 33, 3) := by decide +kernel
theorem dL_law_276 : decode bL_law 276 = .ok (.aload_n 2, 1) := by decide +kernel
theorem dL_law_277 : decode bL_law 277 = .ok (.aload_n 0, 1) := by decide +kernel
theorem dL_law_278 : decode bL_law 278 = .ok (.iload_n 3, 1) := by decide +kernel
theorem dL_law_279 : decode bL_law 279 = .ok (.iconst 1, 1) := by decide +kernel
theorem dL_law_280 : decode bL_law 280 = .ok (.iadd, 1) := by decide +kernel
theorem dL_law_281 : decode bL_law 281 = .ok (.iaload, 1) := by decide +kernel
theorem dL_law_282 : decode bL_law 282 = .ok (.aload_n 0, 1) := by decide +kernel
theorem dL_law_283 : decode bL_law 283 = .ok (.iload_n 3, 1) := by decide +kernel
theorem dL_law_284 : decode bL_law 284 = .ok (.iconst 2, 1) := by decide +kernel
theorem dL_law_285 : decode bL_law 285 = .ok (.iadd, 1) := by decide +kernel
theorem dL_law_286 : decode bL_law 286 = .ok (.iaload, 1) := by decide +kernel
theorem dL_law_287 : decode bL_law 287 = .ok (.invokevirtual 37, 3) := by decide +kernel
theorem dL_law_290 : decode bL_law 290 = .ok (.if_icmp .eq 413, 3) := by decide +kernel
theorem dL_law_293 : decode bL_law 293 = .ok (.iconst 0, 1) := by decide +kernel
theorem dL_law_294 : decode bL_law 294 = .ok (.ireturn, 1) := by decide +kernel
theorem dL_law_295 : decode bL_law 295 = .ok (.aload_n 1, 1) := by decide +kernel
theorem dL_law_296 : decode bL_law 296 = .ok (.aload_n 0, 1) := by decide +kernel
theorem dL_law_297 : decode bL_law 297 = .ok (.iload_n 3, 1) := by decide +kernel
theorem dL_law_298 : decode bL_law 298 = .ok (.iconst 1, 1) := by decide +kernel
theorem dL_law_299 : decode bL_law 299 = .ok (.iadd, 1) := by decide +kernel
theorem dL_law_300 : decode bL_law 300 = .ok (.iaload, 1) := by decide +kernel
theorem dL_law_301 : decode bL_law 301 = .ok (.aload_n 0, 1) := by decide +kernel
theorem dL_law_302 : decode bL_law 302 = .ok (.iload_n 3, 1) := by decide +kernel
theorem dL_law_303 : decode bL_law 303 = .ok (.iconst 2, 1) := by decide +kernel
theorem dL_law_304 : decode bL_law 304 = .ok (.iadd, 1) := by decide +kernel
theorem dL_law_305 : decode bL_law 305 = .ok (.iaload, 1) := by decide +kernel
theorem dL_law_306 : decode bL_law 306 = .ok (.i2l, 1) := by decide +kernel
theorem dL_law_307 : decode bL_law 307 = .ok (.bipush 32, 2) := by decide +kernel
theorem dL_law_309 : decode bL_law 309 = .ok (.lshl, 1) := by decide +kernel
theorem dL_law_310 : decode bL_law 310 = .ok (.aload_n 0, 1) := by decide +kernel
theorem dL_law_311 : decode bL_law 311 = .ok (.iload_n 3, 1) := by decide +kernel
theorem dL_law_312 : decode bL_law 312 = .ok (.iconst 3, 1) := by decide +kernel
theorem dL_law_313 : decode bL_law 313 = .ok (.iadd, 1) := by decide +kernel
theorem dL_law_314 : decode bL_law 314 = .ok (.iaload, 1) := by decide +kernel
theorem dL_law_315 : decode bL_law 315 = .ok (.i2l, 1) := by decide +kernel
theorem dL_law_316 : decode bL_law 316 = .ok (.ldc2_w 21, 3) := by decide +kernel
theorem dL_law_319 : decode bL_law 319 = .ok (.land, 1) := by decide +kernel
theorem dL_law_320 : decode bL_law 320 = .ok (.lor, 1) := by decide +kernel
theorem dL_law_321 : decode bL_law 321 = .ok (.aload_n 0, 1) := by decide +kernel
theorem dL_law_322 : decode bL_law 322 = .ok (.iload_n 3, 1) := by decide +kernel
theorem dL_law_323 : decode bL_law 323 = .ok (.iconst 4, 1) := by decide +kernel
theorem dL_law_324 : decode bL_law 324 = .ok (.iadd, 1) := by decide +kernel
theorem dL_law_325 : decode bL_law 325 = .ok (.iaload, 1) := by decide +kernel
theorem dL_law_326 : decode bL_law 326 = .ok (.invokevirtual 38, 3) := by decide +kernel
theorem dL_law_329 : decode bL_law 329 = .ok (.aload_n 2, 1) := by decide +kernel
theorem dL_law_330 : decode bL_law 330 = .ok (.aload_n 0, 1) := by decide +kernel
theorem dL_law_331 : decode bL_law 331 = .ok (.iload_n 3, 1) := by decide +kernel
theorem dL_law_332 : decode bL_law 332 = .ok (.iconst 1, 1) := by decide +kernel
theorem dL_law_333 : decode bL_law 333 = .ok (.iadd, 1) := by decide +kernel
theorem dL_law_334 : decode bL_law 334 = .ok (.iaload, 1) := by decide +kernel
theorem dL_law_335 : decode bL_law 335 = .ok (.aload_n 0, 1) := by decide +kernel
theorem dL_law_336 : decode bL_law 336 = .ok (.iload_n 3, 1) := by decide +kernel
theorem dL_law_337 : decode bL_law 337 = .ok (.iconst 2, 1) := by decide +kernel
theorem dL_law_338 : decode bL_law 338 = .ok (.iadd, 1) := by decide +kernel
theorem dL_law_339 : decode bL_law 339 = .ok (.iaload, 1) := by decide +kernel
theorem dL_law_340 : decode bL_law 340 = .ok (.i2l, 1) := by decide +kernel
theorem dL_law_341 : decode bL_law 341 = .ok (.bipush 32, 2) := by decide +kernel
theorem dL_law_343 : decode bL_law 343 = .ok (.lshl, 1) := by decide +kernel
theorem dL_law_344 : decode bL_law 344 = .ok (.aload_n 0, 1) := by decide +kernel
theorem dL_law_345 : decode bL_law 345 = .ok (.iload_n 3, 1) := by decide +kernel
theorem dL_law_346 : decode bL_law 346 = .ok (.iconst 3, 1) := by decide +kernel
theorem dL_law_347 : decode bL_law 347 = .ok (.iadd, 1) := by decide +kernel
theorem dL_law_348 : decode bL_law 348 = .ok (.iaload, 1) := by decide +kernel
theorem dL_law_349 : decode bL_law 349 = .ok (.i2l, 1) := by decide +kernel
theorem dL_law_350 : decode bL_law 350 = .ok (.ldc2_w 21, 3) := by decide +kernel
theorem dL_law_353 : decode bL_law 353 = .ok (.land, 1) := by decide +kernel
theorem dL_law_354 : decode bL_law 354 = .ok (.lor, 1) := by decide +kernel
theorem dL_law_355 : decode bL_law 355 = .ok (.aload_n 0, 1) := by decide +kernel
theorem dL_law_356 : decode bL_law 356 = .ok (.iload_n 3, 1) := by decide +kernel
theorem dL_law_357 : decode bL_law 357 = .ok (.iconst 4, 1) := by decide +kernel
theorem dL_law_358 : decode bL_law 358 = .ok (.iadd, 1) := by decide +kernel
theorem dL_law_359 : decode bL_law 359 = .ok (.iaload, 1) := by decide +kernel
theorem dL_law_360 : decode bL_law 360 = .ok (.invokevirtual 42, 3) := by decide +kernel
theorem dL_law_363 : decode bL_law 363 = .ok (.if_icmp .eq 340, 3) := by decide +kernel
theorem dL_law_366 : decode bL_law 366 = .ok (.iconst 0, 1) := by decide +kernel
theorem dL_law_367 : decode bL_law 367 = .ok (.ireturn, 1) := by decide +kernel
theorem dL_law_368 : decode bL_law 368 = .ok (.aload_n 1, 1) := by decide +kernel
theorem dL_law_369 : decode bL_law 369 = .ok (.aload_n 0, 1) := by decide +kernel
theorem dL_law_370 : decode bL_law 370 = .ok (.iload_n 3, 1) := by decide +kernel
theorem dL_law_371 : decode bL_law 371 = .ok (.iconst 1, 1) := by decide +kernel
theorem dL_law_372 : decode bL_law 372 = .ok (.iadd, 1) := by decide +kernel
theorem dL_law_373 : decode bL_law 373 = .ok (.iaload, 1) := by decide +kernel
theorem dL_law_374 : decode bL_law 374 = .ok (.invokevirtual 43, 3) := by decide +kernel
theorem dL_law_377 : decode bL_law 377 = .ok (.aload_n 2, 1) := by decide +kernel
theorem dL_law_378 : decode bL_law 378 = .ok (.aload_n 0, 1) := by decide +kernel
theorem dL_law_379 : decode bL_law 379 = .ok (.iload_n 3, 1) := by decide +kernel
theorem dL_law_380 : decode bL_law 380 = .ok (.iconst 1, 1) := by decide +kernel
theorem dL_law_381 : decode bL_law 381 = .ok (.iadd, 1) := by decide +kernel
theorem dL_law_382 : decode bL_law 382 = .ok (.iaload, 1) := by decide +kernel
theorem dL_law_383 : decode bL_law 383 = .ok (.invokevirtual 47, 3) := by decide +kernel
theorem dL_law_386 : decode bL_law 386 = .ok (.if_icmp .eq 317, 3) := by decide +kernel
theorem dL_law_389 : decode bL_law 389 = .ok (.iconst 0, 1) := by decide +kernel
theorem dL_law_390 : decode bL_law 390 = .ok (.ireturn, 1) := by decide +kernel
theorem dL_law_391 : decode bL_law 391 = .ok (.aload_n 1, 1) := by decide +kernel
theorem dL_law_392 : decode bL_law 392 = .ok (.invokevirtual 48, 3) := by decide +kernel
theorem dL_law_395 : decode bL_law 395 = .ok (.aload_n 2, 1) := by decide +kernel
theorem dL_law_396 : decode bL_law 396 = .ok (.invokevirtual 52, 3) := by decide +kernel
theorem dL_law_399 : decode bL_law 399 = .ok (.if_icmp .eq 304, 3) := by decide +kernel
theorem dL_law_402 : decode bL_law 402 = .ok (.iconst 0, 1) := by decide +kernel
theorem dL_law_403 : decode bL_law 403 = .ok (.ireturn, 1) := by decide +kernel
theorem dL_law_404 : decode bL_law 404 = .ok (.aload_n 1, 1) := by decide +kernel
theorem dL_law_405 : decode bL_law 405 = .ok (.aload_n 0, 1) := by decide +kernel
theorem dL_law_406 : decode bL_law 406 = .ok (.iload_n 3, 1) := by decide +kernel
theorem dL_law_407 : decode bL_law 407 = .ok (.iconst 1, 1) := by decide +kernel
theorem dL_law_408 : decode bL_law 408 = .ok (.iadd, 1) := by decide +kernel
theorem dL_law_409 : decode bL_law 409 = .ok (.iaload, 1) := by decide +kernel
theorem dL_law_410 : decode bL_law 410 = .ok (.invokevirtual 53, 3) := by decide +kernel
theorem dL_law_413 : decode bL_law 413 = .ok (.aload_n 2, 1) := by decide +kernel
theorem dL_law_414 : decode bL_law 414 = .ok (.aload_n 0, 1) := by decide +kernel
theorem dL_law_415 : decode bL_law 415 = .ok (.iload_n 3, 1) := by decide +kernel
theorem dL_law_416 : decode bL_law 416 = .ok (.iconst 1, 1) := by decide +kernel
theorem dL_law_417 : decode bL_law 417 = .ok (.iadd, 1) := by decide +kernel
theorem dL_law_418 : decode bL_law 418 = .ok (.iaload, 1) := by decide +kernel
theorem dL_law_419 : decode bL_law 419 = .ok (.invokevirtual 56, 3) := by decide +kernel
theorem dL_law_422 : decode bL_law 422 = .ok (.if_icmp .eq 281, 3) := by decide +kernel
theorem dL_law_425 : decode bL_law 425 = .ok (.iconst 0, 1) := by decide +kernel
theorem dL_law_426 : decode bL_law 426 = .ok (.ireturn, 1) := by decide +kernel
theorem dL_law_427 : decode bL_law 427 = .ok (.aload_n 1, 1) := by decide +kernel
theorem dL_law_428 : decode bL_law 428 = .ok (.aload_n 0, 1) := by decide +kernel
theorem dL_law_429 : decode bL_law 429 = .ok (.iload_n 3, 1) := by decide +kernel
theorem dL_law_430 : decode bL_law 430 = .ok (.iconst 1, 1) := by decide +kernel
theorem dL_law_431 : decode bL_law 431 = .ok (.iadd, 1) := by decide +kernel
theorem dL_law_432 : decode bL_law 432 = .ok (.iaload, 1) := by decide +kernel
theorem dL_law_433 : decode bL_law 433 = .ok (.invokevirtual 57, 3) := by decide +kernel
theorem dL_law_436 : decode bL_law 436 = .ok (.aload_n 2, 1) := by decide +kernel
theorem dL_law_437 : decode bL_law 437 = .ok (.aload_n 0, 1) := by decide +kernel
theorem dL_law_438 : decode bL_law 438 = .ok (.iload_n 3, 1) := by decide +kernel
theorem dL_law_439 : decode bL_law 439 = .ok (.iconst 1, 1) := by decide +kernel
theorem dL_law_440 : decode bL_law 440 = .ok (.iadd, 1) := by decide +kernel
theorem dL_law_441 : decode bL_law 441 = .ok (.iaload, 1) := by decide +kernel
theorem dL_law_442 : decode bL_law 442 = .ok (.invokevirtual 60, 3) := by decide +kernel
theorem dL_law_445 : decode bL_law 445 = .ok (.if_icmp .eq 258, 3) := by decide +kernel
theorem dL_law_448 : decode bL_law 448 = .ok (.iconst 0, 1) := by decide +kernel
theorem dL_law_449 : decode bL_law 449 = .ok (.ireturn, 1) := by decide +kernel
theorem dL_law_450 : decode bL_law 450 = .ok (.aload_n 1, 1) := by decide +kernel
theorem dL_law_451 : decode bL_law 451 = .ok (.aload_n 0, 1) := by decide +kernel
theorem dL_law_452 : decode bL_law 452 = .ok (.iload_n 3, 1) := by decide +kernel
theorem dL_law_453 : decode bL_law 453 = .ok (.iconst 1, 1) := by decide +kernel
theorem dL_law_454 : decode bL_law 454 = .ok (.iadd, 1) := by decide +kernel
theorem dL_law_455 : decode bL_law 455 = .ok (.iaload, 1) := by decide +kernel
theorem dL_law_456 : decode bL_law 456 = .ok (.invokevirtual 61, 3) := by decide +kernel
theorem dL_law_459 : decode bL_law 459 = .ok (.aload_n 2, 1) := by decide +kernel
theorem dL_law_460 : decode bL_law 460 = .ok (.aload_n 0, 1) := by decide +kernel
theorem dL_law_461 : decode bL_law 461 = .ok (.iload_n 3, 1) := by decide +kernel
theorem dL_law_462 : decode bL_law 462 = .ok (.iconst 1, 1) := by decide +kernel
theorem dL_law_463 : decode bL_law 463 = .ok (.iadd, 1) := by decide +kernel
theorem dL_law_464 : decode bL_law 464 = .ok (.iaload, 1) := by decide +kernel
theorem dL_law_465 : decode bL_law 465 = .ok (.invokevirtual 64, 3) := by decide +kernel
theorem dL_law_468 : decode bL_law 468 = .ok (.if_icmp .eq 235, 3) := by decide +kernel
theorem dL_law_471 : decode bL_law 471 = .ok (.iconst 0, 1) := by decide +kernel
theorem dL_law_472 : decode bL_law 472 = .ok (.ireturn, 1) := by decide +kernel
theorem dL_law_473 : decode bL_law 473 = .ok (.aload_n 1, 1) := by decide +kernel
theorem dL_law_474 : decode bL_law 474 = .ok (.aload_n 0, 1) := by decide +kernel
theorem dL_law_475 : decode bL_law 475 = .ok (.iload_n 3, 1) := by decide +kernel
theorem dL_law_476 : decode bL_law 476 = .ok (.iconst 1, 1) := by decide +kernel
theorem dL_law_477 : decode bL_law 477 = .ok (.iadd, 1) := by decide +kernel
theorem dL_law_478 : decode bL_law 478 = .ok (.iaload, 1) := by decide +kernel
theorem dL_law_479 : decode bL_law 479 = .ok (.invokevirtual 65, 3) := by decide +kernel
theorem dL_law_482 : decode bL_law 482 = .ok (.aload_n 2, 1) := by decide +kernel
theorem dL_law_483 : decode bL_law 483 = .ok (.aload_n 0, 1) := by decide +kernel
theorem dL_law_484 : decode bL_law 484 = .ok (.iload_n 3, 1) := by decide +kernel
theorem dL_law_485 : decode bL_law 485 = .ok (.iconst 1, 1) := by decide +kernel
theorem dL_law_486 : decode bL_law 486 = .ok (.iadd, 1) := by decide +kernel
theorem dL_law_487 : decode bL_law 487 = .ok (.iaload, 1) := by decide +kernel
theorem dL_law_488 : decode bL_law 488 = .ok (.invokevirtual 68, 3) := by decide +kernel
theorem dL_law_491 : decode bL_law 491 = .ok (.if_icmp .eq 212, 3) := by decide +kernel
theorem dL_law_494 : decode bL_law 494 = .ok (.iconst 0, 1) := by decide +kernel
theorem dL_law_495 : decode bL_law 495 = .ok (.ireturn, 1) := by decide +kernel
theorem dL_law_496 : decode bL_law 496 = .ok (.aload_n 1, 1) := by decide +kernel
theorem dL_law_497 : decode bL_law 497 = .ok (.aload_n 0, 1) := by decide +kernel
theorem dL_law_498 : decode bL_law 498 = .ok (.iload_n 3, 1) := by decide +kernel
theorem dL_law_499 : decode bL_law 499 = .ok (.iconst 1, 1) := by decide +kernel
theorem dL_law_500 : decode bL_law 500 = .ok (.iadd, 1) := by decide +kernel
theorem dL_law_501 : decode bL_law 501 = .ok (.iaload, 1) := by decide +kernel
theorem dL_law_502 : decode bL_law 502 = .ok (.aload_n 0, 1) := by decide +kernel
theorem dL_law_503 : decode bL_law 503 = .ok (.iload_n 3, 1) := by decide +kernel
theorem dL_law_504 : decode bL_law 504 = .ok (.iconst 2, 1) := by decide +kernel
theorem dL_law_505 : decode bL_law 505 = .ok (.iadd, 1) := by decide +kernel
theorem dL_law_506 : decode bL_law 506 = .ok (.iaload, 1) := by decide +kernel
theorem dL_law_507 : decode bL_law 507 = .ok (.invokevirtual 69, 3) := by decide +kernel
theorem dL_law_510 : decode bL_law 510 = .ok (.aload_n 2, 1) := by decide +kernel
theorem dL_law_511 : decode bL_law 511 = .ok (.aload_n 0, 1) := by decide +kernel
theorem dL_law_512 : decode bL_law 512 = .ok (.iload_n 3, 1) := by decide +kernel
theorem dL_law_513 : decode bL_law 513 = .ok (.iconst 1, 1) := by decide +kernel
theorem dL_law_514 : decode bL_law 514 = .ok (.iadd, 1) := by decide +kernel
theorem dL_law_515 : decode bL_law 515 = .ok (.iaload, 1) := by decide +kernel
theorem dL_law_516 : decode bL_law 516 = .ok (.aload_n 0, 1) := by decide +kernel
theorem dL_law_517 : decode bL_law 517 = .ok (.iload_n 3, 1) := by decide +kernel
theorem dL_law_518 : decode bL_law 518 = .ok (.iconst 2, 1) := by decide +kernel
theorem dL_law_519 : decode bL_law 519 = .ok (.iadd, 1) := by decide +kernel
theorem dL_law_520 : decode bL_law 520 = .ok (.iaload, 1) := by decide +kernel
theorem dL_law_521 : decode bL_law 521 = .ok (.invokevirtual 73, 3) := by decide +kernel
theorem dL_law_524 : decode bL_law 524 = .ok (.if_icmp .eq 179, 3) := by decide +kernel
theorem dL_law_527 : decode bL_law 527 = .ok (.iconst 0, 1) := by decide +kernel
theorem dL_law_528 : decode bL_law 528 = .ok (.ireturn, 1) := by decide +kernel
theorem dL_law_529 : decode bL_law 529 = .ok (.aload_n 1, 1) := by decide +kernel
theorem dL_law_530 : decode bL_law 530 = .ok (.aload_n 0, 1) := by decide +kernel
theorem dL_law_531 : decode bL_law 531 = .ok (.iload_n 3, 1) := by decide +kernel
theorem dL_law_532 : decode bL_law 532 = .ok (.iconst 1, 1) := by decide +kernel
theorem dL_law_533 : decode bL_law 533 = .ok (.iadd, 1) := by decide +kernel
theorem dL_law_534 : decode bL_law 534 = .ok (.iaload, 1) := by decide +kernel
theorem dL_law_535 : decode bL_law 535 = .ok (.invokevirtual 74, 3) := by decide +kernel
theorem dL_law_538 : decode bL_law 538 = .ok (.aload_n 2, 1) := by decide +kernel
theorem dL_law_539 : decode bL_law 539 = .ok (.aload_n 0, 1) := by decide +kernel
theorem dL_law_540 : decode bL_law 540 = .ok (.iload_n 3, 1) := by decide +kernel
theorem dL_law_541 : decode bL_law 541 = .ok (.iconst 1, 1) := by decide +kernel
theorem dL_law_542 : decode bL_law 542 = .ok (.iadd, 1) := by decide +kernel
theorem dL_law_543 : decode bL_law 543 = .ok (.iaload, 1) := by decide +kernel
theorem dL_law_544 : decode bL_law 544 = .ok (.invokevirtual 78, 3) := by decide +kernel
theorem dL_law_547 : decode bL_law 547 = .ok (.lcmp, 1) := by decide +kernel
theorem dL_law_548 : decode bL_law 548 = .ok (.ifCond .eq 155, 3) := by decide +kernel
theorem dL_law_551 : decode bL_law 551 = .ok (.iconst 0, 1) := by decide +kernel
theorem dL_law_552 : decode bL_law 552 = .ok (.ireturn, 1) := by decide +kernel
theorem dL_law_553 : decode bL_law 553 = .ok (.aload_n 1, 1) := by decide +kernel
theorem dL_law_554 : decode bL_law 554 = .ok (.aload_n 0, 1) := by decide +kernel
theorem dL_law_555 : decode bL_law 555 = .ok (.iload_n 3, 1) := by decide +kernel
theorem dL_law_556 : decode bL_law 556 = .ok (.iconst 1, 1) := by decide +kernel
theorem dL_law_557 : decode bL_law 557 = .ok (.iadd, 1) := by decide +kernel
theorem dL_law_558 : decode bL_law 558 = .ok (.iaload, 1) := by decide +kernel
theorem dL_law_559 : decode bL_law 559 = .ok (.aload_n 0, 1) := by decide +kernel
theorem dL_law_560 : decode bL_law 560 = .ok (.iload_n 3, 1) := by decide +kernel
theorem dL_law_561 : decode bL_law 561 = .ok (.iconst 2, 1) := by decide +kernel
theorem dL_law_562 : decode bL_law 562 = .ok (.iadd, 1) := by decide +kernel
theorem dL_law_563 : decode bL_law 563 = .ok (.iaload, 1) := by decide +kernel
theorem dL_law_564 : decode bL_law 564 = .ok (.invokevirtual 79, 3) := by decide +kernel
theorem dL_law_567 : decode bL_law 567 = .ok (.aload_n 2, 1) := by decide +kernel
theorem dL_law_568 : decode bL_law 568 = .ok (.aload_n 0, 1) := by decide +kernel
theorem dL_law_569 : decode bL_law 569 = .ok (.iload_n 3, 1) := by decide +kernel
theorem dL_law_570 : decode bL_law 570 = .ok (.iconst 1, 1) := by decide +kernel
theorem dL_law_571 : decode bL_law 571 = .ok (.iadd, 1) := by decide +kernel
theorem dL_law_572 : decode bL_law 572 = .ok (.iaload, 1) := by decide +kernel
theorem dL_law_573 : decode bL_law 573 = .ok (.aload_n 0, 1) := by decide +kernel
theorem dL_law_574 : decode bL_law 574 = .ok (.iload_n 3, 1) := by decide +kernel
theorem dL_law_575 : decode bL_law 575 = .ok (.iconst 2, 1) := by decide +kernel
theorem dL_law_576 : decode bL_law 576 = .ok (.iadd, 1) := by decide +kernel
theorem dL_law_577 : decode bL_law 577 = .ok (.iaload, 1) := by decide +kernel
theorem dL_law_578 : decode bL_law 578 = .ok (.invokevirtual 82, 3) := by decide +kernel
theorem dL_law_581 : decode bL_law 581 = .ok (.if_icmp .eq 122, 3) := by decide +kernel
theorem dL_law_584 : decode bL_law 584 = .ok (.iconst 0, 1) := by decide +kernel
theorem dL_law_585 : decode bL_law 585 = .ok (.ireturn, 1) := by decide +kernel
theorem dL_law_586 : decode bL_law 586 = .ok (.aload_n 1, 1) := by decide +kernel
theorem dL_law_587 : decode bL_law 587 = .ok (.aload_n 0, 1) := by decide +kernel
theorem dL_law_588 : decode bL_law 588 = .ok (.iload_n 3, 1) := by decide +kernel
theorem dL_law_589 : decode bL_law 589 = .ok (.iconst 1, 1) := by decide +kernel
theorem dL_law_590 : decode bL_law 590 = .ok (.iadd, 1) := by decide +kernel
theorem dL_law_591 : decode bL_law 591 = .ok (.iaload, 1) := by decide +kernel
theorem dL_law_592 : decode bL_law 592 = .ok (.invokevirtual 83, 3) := by decide +kernel
theorem dL_law_595 : decode bL_law 595 = .ok (.aload_n 2, 1) := by decide +kernel
theorem dL_law_596 : decode bL_law 596 = .ok (.aload_n 0, 1) := by decide +kernel
theorem dL_law_597 : decode bL_law 597 = .ok (.iload_n 3, 1) := by decide +kernel
theorem dL_law_598 : decode bL_law 598 = .ok (.iconst 1, 1) := by decide +kernel
theorem dL_law_599 : decode bL_law 599 = .ok (.iadd, 1) := by decide +kernel
theorem dL_law_600 : decode bL_law 600 = .ok (.iaload, 1) := by decide +kernel
theorem dL_law_601 : decode bL_law 601 = .ok (.invokevirtual 86, 3) := by decide +kernel
theorem dL_law_604 : decode bL_law 604 = .ok (.if_icmp .eq 99, 3) := by decide +kernel
theorem dL_law_607 : decode bL_law 607 = .ok (.iconst 0, 1) := by decide +kernel
theorem dL_law_608 : decode bL_law 608 = .ok (.ireturn, 1) := by decide +kernel
theorem dL_law_609 : decode bL_law 609 = .ok (.aload_n 1, 1) := by decide +kernel
theorem dL_law_610 : decode bL_law 610 = .ok (.aload_n 0, 1) := by decide +kernel
theorem dL_law_611 : decode bL_law 611 = .ok (.iload_n 3, 1) := by decide +kernel
theorem dL_law_612 : decode bL_law 612 = .ok (.iconst 1, 1) := by decide +kernel
theorem dL_law_613 : decode bL_law 613 = .ok (.iadd, 1) := by decide +kernel
theorem dL_law_614 : decode bL_law 614 = .ok (.iaload, 1) := by decide +kernel
theorem dL_law_615 : decode bL_law 615 = .ok (.i2l, 1) := by decide +kernel
theorem dL_law_616 : decode bL_law 616 = .ok (.bipush 32, 2) := by decide +kernel
theorem dL_law_618 : decode bL_law 618 = .ok (.lshl, 1) := by decide +kernel
theorem dL_law_619 : decode bL_law 619 = .ok (.aload_n 0, 1) := by decide +kernel
theorem dL_law_620 : decode bL_law 620 = .ok (.iload_n 3, 1) := by decide +kernel
theorem dL_law_621 : decode bL_law 621 = .ok (.iconst 2, 1) := by decide +kernel
theorem dL_law_622 : decode bL_law 622 = .ok (.iadd, 1) := by decide +kernel
theorem dL_law_623 : decode bL_law 623 = .ok (.iaload, 1) := by decide +kernel
theorem dL_law_624 : decode bL_law 624 = .ok (.i2l, 1) := by decide +kernel
theorem dL_law_625 : decode bL_law 625 = .ok (.ldc2_w 21, 3) := by decide +kernel
theorem dL_law_628 : decode bL_law 628 = .ok (.land, 1) := by decide +kernel
theorem dL_law_629 : decode bL_law 629 = .ok (.lor, 1) := by decide +kernel
theorem dL_law_630 : decode bL_law 630 = .ok (.aload_n 0, 1) := by decide +kernel
theorem dL_law_631 : decode bL_law 631 = .ok (.iload_n 3, 1) := by decide +kernel
theorem dL_law_632 : decode bL_law 632 = .ok (.iconst 3, 1) := by decide +kernel
theorem dL_law_633 : decode bL_law 633 = .ok (.iadd, 1) := by decide +kernel
theorem dL_law_634 : decode bL_law 634 = .ok (.iaload, 1) := by decide +kernel
theorem dL_law_635 : decode bL_law 635 = .ok (.i2l, 1) := by decide +kernel
theorem dL_law_636 : decode bL_law 636 = .ok (.bipush 32, 2) := by decide +kernel
theorem dL_law_638 : decode bL_law 638 = .ok (.lshl, 1) := by decide +kernel
theorem dL_law_639 : decode bL_law 639 = .ok (.aload_n 0, 1) := by decide +kernel
theorem dL_law_640 : decode bL_law 640 = .ok (.iload_n 3, 1) := by decide +kernel
theorem dL_law_641 : decode bL_law 641 = .ok (.iconst 4, 1) := by decide +kernel
theorem dL_law_642 : decode bL_law 642 = .ok (.iadd, 1) := by decide +kernel
theorem dL_law_643 : decode bL_law 643 = .ok (.iaload, 1) := by decide +kernel
theorem dL_law_644 : decode bL_law 644 = .ok (.i2l, 1) := by decide +kernel
theorem dL_law_645 : decode bL_law 645 = .ok (.ldc2_w 21, 3) := by decide +kernel
theorem dL_law_648 : decode bL_law 648 = .ok (.land, 1) := by decide +kernel
theorem dL_law_649 : decode bL_law 649 = .ok (.lor, 1) := by decide +kernel
theorem dL_law_650 : decode bL_law 650 = .ok (.invokevirtual 87, 3) := by decide +kernel
theorem dL_law_653 : decode bL_law 653 = .ok (.aload_n 2, 1) := by decide +kernel
theorem dL_law_654 : decode bL_law 654 = .ok (.aload_n 0, 1) := by decide +kernel
theorem dL_law_655 : decode bL_law 655 = .ok (.iload_n 3, 1) := by decide +kernel
theorem dL_law_656 : decode bL_law 656 = .ok (.iconst 1, 1) := by decide +kernel
theorem dL_law_657 : decode bL_law 657 = .ok (.iadd, 1) := by decide +kernel
theorem dL_law_658 : decode bL_law 658 = .ok (.iaload, 1) := by decide +kernel
theorem dL_law_659 : decode bL_law 659 = .ok (.i2l, 1) := by decide +kernel
theorem dL_law_660 : decode bL_law 660 = .ok (.bipush 32, 2) := by decide +kernel
theorem dL_law_662 : decode bL_law 662 = .ok (.lshl, 1) := by decide +kernel
theorem dL_law_663 : decode bL_law 663 = .ok (.aload_n 0, 1) := by decide +kernel
theorem dL_law_664 : decode bL_law 664 = .ok (.iload_n 3, 1) := by decide +kernel
theorem dL_law_665 : decode bL_law 665 = .ok (.iconst 2, 1) := by decide +kernel
theorem dL_law_666 : decode bL_law 666 = .ok (.iadd, 1) := by decide +kernel
theorem dL_law_667 : decode bL_law 667 = .ok (.iaload, 1) := by decide +kernel
theorem dL_law_668 : decode bL_law 668 = .ok (.i2l, 1) := by decide +kernel
theorem dL_law_669 : decode bL_law 669 = .ok (.ldc2_w 21, 3) := by decide +kernel
theorem dL_law_672 : decode bL_law 672 = .ok (.land, 1) := by decide +kernel
theorem dL_law_673 : decode bL_law 673 = .ok (.lor, 1) := by decide +kernel
theorem dL_law_674 : decode bL_law 674 = .ok (.aload_n 0, 1) := by decide +kernel
theorem dL_law_675 : decode bL_law 675 = .ok (.iload_n 3, 1) := by decide +kernel
theorem dL_law_676 : decode bL_law 676 = .ok (.iconst 3, 1) := by decide +kernel
theorem dL_law_677 : decode bL_law 677 = .ok (.iadd, 1) := by decide +kernel
theorem dL_law_678 : decode bL_law 678 = .ok (.iaload, 1) := by decide +kernel
theorem dL_law_679 : decode bL_law 679 = .ok (.i2l, 1) := by decide +kernel
theorem dL_law_680 : decode bL_law 680 = .ok (.bipush 32, 2) := by decide +kernel
theorem dL_law_682 : decode bL_law 682 = .ok (.lshl, 1) := by decide +kernel
theorem dL_law_683 : decode bL_law 683 = .ok (.aload_n 0, 1) := by decide +kernel
theorem dL_law_684 : decode bL_law 684 = .ok (.iload_n 3, 1) := by decide +kernel
theorem dL_law_685 : decode bL_law 685 = .ok (.iconst 4, 1) := by decide +kernel
theorem dL_law_686 : decode bL_law 686 = .ok (.iadd, 1) := by decide +kernel
theorem dL_law_687 : decode bL_law 687 = .ok (.iaload, 1) := by decide +kernel
theorem dL_law_688 : decode bL_law 688 = .ok (.i2l, 1) := by decide +kernel
theorem dL_law_689 : decode bL_law 689 = .ok (.ldc2_w 21, 3) := by decide +kernel
theorem dL_law_692 : decode bL_law 692 = .ok (.land, 1) := by decide +kernel
theorem dL_law_693 : decode bL_law 693 = .ok (.lor, 1) := by decide +kernel
theorem dL_law_694 : decode bL_law 694 = .ok (.invokevirtual 91, 3) := by decide +kernel
theorem dL_law_697 : decode bL_law 697 = .ok (.lcmp, 1) := by decide +kernel
theorem dL_law_698 : decode bL_law 698 = .ok (.ifCond .eq 5, 3) := by decide +kernel
theorem dL_law_701 : decode bL_law 701 = .ok (.iconst 0, 1) := by decide +kernel
theorem dL_law_702 : decode bL_law 702 = .ok (.ireturn, 1) := by decide +kernel
theorem dL_law_703 : decode bL_law 703 = .ok (.iinc 3 5, 3) := by decide +kernel
theorem dL_law_706 : decode bL_law 706 = .ok (.goto (-658), 3) := by decide +kernel
theorem dL_law_709 : decode bL_law 709 = .ok (.iconst 1, 1) := by decide +kernel
theorem dL_law_710 : decode bL_law 710 = .ok (.ireturn, 1) := by decide +kernel
end
section
theorem wv_C_toolAt : Cond.selects RX3 yC_toolAt yC_toolAt ∈ wA := wA_of (n := 0) (by decide +kernel) (by decide +kernel)
theorem wv_C_requestAt : Cond.selects RX3 yC_requestAt yC_requestAt ∈ wA := wA_of (n := 1) (by decide +kernel) (by decide +kernel)
theorem wv_C_moveOn : Cond.selects RX3 yC_moveOn yC_moveOn ∈ wA := wA_of (n := 2) (by decide +kernel) (by decide +kernel)
theorem wv_C_firstFree : Cond.selects RX3 yC_firstFree yC_firstFree ∈ wA := wA_of (n := 3) (by decide +kernel) (by decide +kernel)
theorem wv_C_startWorker : Cond.selects RX3 yC_startWorker yC_startWorker ∈ wA := wA_of (n := 4) (by decide +kernel) (by decide +kernel)
theorem wv_C_countStaying : Cond.selects RX3 yC_countStaying yC_countStaying ∈ wA := wA_of (n := 5) (by decide +kernel) (by decide +kernel)
theorem wv_C_workerAt : Cond.selects RX3 yC_workerAt yC_workerAt ∈ wA := wA_of (n := 6) (by decide +kernel) (by decide +kernel)
theorem wv_C_redoUntrusted : Cond.selects RX3 yC_redoUntrusted yC_redoUntrusted ∈ wA := wA_of (n := 7) (by decide +kernel) (by decide +kernel)
theorem wv_M_goes : Cond.selects RX4 yM_goes yM_goes ∈ wA := wA_of (n := 8) (by decide +kernel) (by decide +kernel)
theorem wv_M_answers : Cond.selects RX4 yM_answers yM_answers ∈ wA := wA_of (n := 9) (by decide +kernel) (by decide +kernel)
theorem wv_M_freeOne : Cond.selects RX4 yM_freeOne yM_freeOne ∈ wA := wA_of (n := 10) (by decide +kernel) (by decide +kernel)
theorem wv_M_alive : Cond.selects RX4 yM_alive yM_alive ∈ wA := wA_of (n := 11) (by decide +kernel) (by decide +kernel)
theorem wv_M_newOne : Cond.selects RX4 yM_newOne yM_newOne ∈ wA := wA_of (n := 12) (by decide +kernel) (by decide +kernel)
theorem wv_M_isBusy : Cond.selects RX4 yM_isBusy yM_isBusy ∈ wA := wA_of (n := 13) (by decide +kernel) (by decide +kernel)
theorem wv_M_lets : Cond.selects RX4 yM_lets yM_lets ∈ wA := wA_of (n := 14) (by decide +kernel) (by decide +kernel)
theorem wv_M_ends : Cond.selects RX4 yM_ends yM_ends ∈ wA := wA_of (n := 15) (by decide +kernel) (by decide +kernel)
theorem wv_M_waitsAgain : Cond.selects RX4 yM_waitsAgain yM_waitsAgain ∈ wA := wA_of (n := 16) (by decide +kernel) (by decide +kernel)
theorem wv_M_isDoneBy : Cond.selects RX4 yM_isDoneBy yM_isDoneBy ∈ wA := wA_of (n := 17) (by decide +kernel) (by decide +kernel)
theorem wn_L : Cond.initialized RL ∈ wA := wA_of (n := 18) (by decide +kernel) (by decide +kernel)
theorem wn_C : Cond.initialized RX3 ∈ wA := wA_of (n := 19) (by decide +kernel) (by decide +kernel)
theorem wn_J : Cond.initialized "java/lang/Math" ∈ wA := wA_of (n := 20) (by decide +kernel) (by decide +kernel)
theorem wn_M : Cond.initialized RX4 ∈ wA := wA_of (n := 21) (by decide +kernel) (by decide +kernel)
theorem wn_T : Cond.initialized RX1 ∈ wA := wA_of (n := 22) (by decide +kernel) (by decide +kernel)
theorem wn_R : Cond.initialized RX0 ∈ wA := wA_of (n := 23) (by decide +kernel) (by decide +kernel)
theorem wn_W : Cond.initialized RX2 ∈ wA := wA_of (n := 24) (by decide +kernel) (by decide +kernel)
theorem wk_L_7 : Cond.classLink RL 7 RX3 ∈ wA := wA_of (n := 25) (by decide +kernel) (by decide +kernel)
theorem wb_C : Cond.instantiable RX3 10 ∈ wA := wA_of (n := 26) (by decide +kernel) (by decide +kernel)
theorem wm_L_15 : Cond.methodLink RL 15 yC_init ∈ wA := wA_of (n := 27) (by decide +kernel) (by decide +kernel)
theorem wi_C_init : Cond.instanceMethod yC_init ∈ wA := wA_of (n := 28) (by decide +kernel) (by decide +kernel)
theorem wc_C_init : Cond.code yC_init bC_init 4 none ∈ wA := wA_of (n := 29) (by decide +kernel) (by decide +kernel)
theorem wm_C_1 : Cond.methodLink RX3 1 objectInit ∈ wA := wA_of (n := 30) (by decide +kernel) (by decide +kernel)
theorem wi_O_init : Cond.instanceMethod objectInit ∈ wA := wA_of (n := 31) (by decide +kernel) (by decide +kernel)
theorem wc_O_init : Cond.code objectInit ⟨#[0xb1]⟩ 1 none ∈ wA := wA_of (n := 32) (by decide +kernel) (by decide +kernel)
theorem wk_C_9 : Cond.classLink RX3 9 RX1 ∈ wA := wA_of (n := 33) (by decide +kernel) (by decide +kernel)
theorem wk_C_15 : Cond.classLink RX3 15 RX2 ∈ wA := wA_of (n := 35) (by decide +kernel) (by decide +kernel)
theorem wk_C_21 : Cond.classLink RX3 21 RX0 ∈ wA := wA_of (n := 37) (by decide +kernel) (by decide +kernel)
theorem wm_C_27 : Cond.methodLink RX3 27 yC_nearest ∈ wA := wA_of (n := 39) (by decide +kernel) (by decide +kernel)
theorem ws_C_nearest : Cond.static yC_nearest ∈ wA := wA_of (n := 40) (by decide +kernel) (by decide +kernel)
theorem wc_C_nearest : Cond.code yC_nearest bC_nearest 3 (some .int) ∈ wA := wA_of (n := 41) (by decide +kernel) (by decide +kernel)
theorem wm_C_180 : Cond.methodLink RX3 180 Lib.Math.min.name ∈ wA := wA_of (n := 42) (by decide +kernel) (by decide +kernel)
theorem ws_J_min : Cond.static Lib.Math.min.name ∈ wA := wA_of (n := 43) (by decide +kernel) (by decide +kernel)
theorem wc_J_min : Cond.code Lib.Math.min.name Lib.Math.min.code 2 (some .int) ∈ wA := wA_of (n := 44) (by decide +kernel) (by decide +kernel)
theorem wm_C_160 : Cond.methodLink RX3 160 Lib.Math.max.name ∈ wA := wA_of (n := 45) (by decide +kernel) (by decide +kernel)
theorem ws_J_max : Cond.static Lib.Math.max.name ∈ wA := wA_of (n := 46) (by decide +kernel) (by decide +kernel)
theorem wc_J_max : Cond.code Lib.Math.max.name Lib.Math.max.code 2 (some .int) ∈ wA := wA_of (n := 47) (by decide +kernel) (by decide +kernel)
theorem wq_C_35 : Cond.constant RX3 35 (100000) ∈ wA := wA_of (n := 48) (by decide +kernel) (by decide +kernel)
theorem wf_C_31 : Cond.fieldLink RX3 31 "WorkerRows" "most" "I" ∈ wA := wA_of (n := 49) (by decide +kernel) (by decide +kernel)
theorem wf_C_36 : Cond.fieldLink RX3 36 "WorkerRows" "bound" "I" ∈ wA := wA_of (n := 50) (by decide +kernel) (by decide +kernel)
theorem wf_C_39 : Cond.fieldLink RX3 39 "WorkerRows" "idle" "I" ∈ wA := wA_of (n := 51) (by decide +kernel) (by decide +kernel)
theorem wf_C_131 : Cond.fieldLink RX3 131 "WorkerRows" "clock" "I" ∈ wA := wA_of (n := 52) (by decide +kernel) (by decide +kernel)
theorem wf_C_11 : Cond.fieldLink RX3 11 "WorkerRows" "tools" "[LWorkerRows$Tool;" ∈ wA := wA_of (n := 53) (by decide +kernel) (by decide +kernel)
theorem wf_C_17 : Cond.fieldLink RX3 17 "WorkerRows" "workers" "[LWorkerRows$Worker;" ∈ wA := wA_of (n := 54) (by decide +kernel) (by decide +kernel)
theorem wf_C_23 : Cond.fieldLink RX3 23 "WorkerRows" "requests" "[LWorkerRows$Request;" ∈ wA := wA_of (n := 55) (by decide +kernel) (by decide +kernel)
theorem wf_C_42 : Cond.fieldLink RX3 42 "WorkerRows" "toolCount" "I" ∈ wA := wA_of (n := 56) (by decide +kernel) (by decide +kernel)
theorem wf_C_197 : Cond.fieldLink RX3 197 "WorkerRows" "workerCount" "I" ∈ wA := wA_of (n := 57) (by decide +kernel) (by decide +kernel)
theorem wf_C_74 : Cond.fieldLink RX3 74 "WorkerRows" "requestCount" "I" ∈ wA := wA_of (n := 58) (by decide +kernel) (by decide +kernel)
theorem wm_L_23 : Cond.methodLink RL 23 yC_tool ∈ wA := wA_of (n := 80) (by decide +kernel) (by decide +kernel)
theorem wi_C_tool : Cond.instanceMethod yC_tool ∈ wA := wA_of (n := 81) (by decide +kernel) (by decide +kernel)
theorem wv_C_tool : Cond.selects RX3 yC_tool yC_tool ∈ wA := wA_of (n := 82) (by decide +kernel) (by decide +kernel)
theorem wc_C_tool : Cond.code yC_tool bC_tool 5 (some .int) ∈ wA := wA_of (n := 83) (by decide +kernel) (by decide +kernel)
theorem wb_T : Cond.instantiable RX1 4 ∈ wA := wA_of (n := 84) (by decide +kernel) (by decide +kernel)
theorem wm_C_45 : Cond.methodLink RX3 45 yT_init ∈ wA := wA_of (n := 85) (by decide +kernel) (by decide +kernel)
theorem wi_T_init : Cond.instanceMethod yT_init ∈ wA := wA_of (n := 86) (by decide +kernel) (by decide +kernel)
theorem wc_T_init : Cond.code yT_init bT_init 5 none ∈ wA := wA_of (n := 87) (by decide +kernel) (by decide +kernel)
theorem wm_T_1 : Cond.methodLink RX1 1 objectInit ∈ wA := wA_of (n := 88) (by decide +kernel) (by decide +kernel)
theorem wf_T_7 : Cond.fieldLink RX1 7 "WorkerRows$Tool" "number" "I" ∈ wA := wA_of (n := 89) (by decide +kernel) (by decide +kernel)
theorem wf_C_48 : Cond.fieldLink RX3 48 "WorkerRows$Tool" "number" "I" ∈ wA := wA_of (n := 90) (by decide +kernel) (by decide +kernel)
theorem wf_T_13 : Cond.fieldLink RX1 13 "WorkerRows$Tool" "edition" "J" ∈ wA := wA_of (n := 91) (by decide +kernel) (by decide +kernel)
theorem wf_W_17 : Cond.fieldLink RX2 17 "WorkerRows$Tool" "edition" "J" ∈ wA := wA_of (n := 92) (by decide +kernel) (by decide +kernel)
theorem wf_C_55 : Cond.fieldLink RX3 55 "WorkerRows$Tool" "edition" "J" ∈ wA := wA_of (n := 93) (by decide +kernel) (by decide +kernel)
theorem wf_T_17 : Cond.fieldLink RX1 17 "WorkerRows$Tool" "quirk" "I" ∈ wA := wA_of (n := 94) (by decide +kernel) (by decide +kernel)
theorem wf_C_71 : Cond.fieldLink RX3 71 "WorkerRows$Tool" "quirk" "I" ∈ wA := wA_of (n := 95) (by decide +kernel) (by decide +kernel)
theorem wf_C_170 : Cond.fieldLink RX3 170 "WorkerRows$Tool" "bars" "I" ∈ wA := wA_of (n := 96) (by decide +kernel) (by decide +kernel)
theorem wm_L_28 : Cond.methodLink RL 28 yC_edition ∈ wA := wA_of (n := 106) (by decide +kernel) (by decide +kernel)
theorem wi_C_edition : Cond.instanceMethod yC_edition ∈ wA := wA_of (n := 107) (by decide +kernel) (by decide +kernel)
theorem wv_C_edition : Cond.selects RX3 yC_edition yC_edition ∈ wA := wA_of (n := 108) (by decide +kernel) (by decide +kernel)
theorem wc_C_edition : Cond.code yC_edition bC_edition 10 (some .int) ∈ wA := wA_of (n := 109) (by decide +kernel) (by decide +kernel)
theorem wm_C_51 : Cond.methodLink RX3 51 yC_toolAt ∈ wA := wA_of (n := 110) (by decide +kernel) (by decide +kernel)
theorem wi_C_toolAt : Cond.instanceMethod yC_toolAt ∈ wA := wA_of (n := 112) (by decide +kernel) (by decide +kernel)
theorem wc_C_toolAt : Cond.code yC_toolAt bC_toolAt 2 (some (.object "WorkerRows$Tool")) ∈ wA := wA_of (n := 113) (by decide +kernel) (by decide +kernel)
theorem wm_C_63 : Cond.methodLink RX3 63 yC_isEnded ∈ wA := wA_of (n := 114) (by decide +kernel) (by decide +kernel)
theorem ws_C_isEnded : Cond.static yC_isEnded ∈ wA := wA_of (n := 115) (by decide +kernel) (by decide +kernel)
theorem wc_C_isEnded : Cond.code yC_isEnded bC_isEnded 1 (some .boolean) ∈ wA := wA_of (n := 116) (by decide +kernel) (by decide +kernel)
theorem wm_C_67 : Cond.methodLink RX3 67 yC_endAndRequeue ∈ wA := wA_of (n := 117) (by decide +kernel) (by decide +kernel)
theorem ws_C_endAndRequeue : Cond.static yC_endAndRequeue ∈ wA := wA_of (n := 118) (by decide +kernel) (by decide +kernel)
theorem wc_C_endAndRequeue : Cond.code yC_endAndRequeue bC_endAndRequeue 3 none ∈ wA := wA_of (n := 119) (by decide +kernel) (by decide +kernel)
theorem wm_C_207 : Cond.methodLink RX3 207 yC_waitAgain ∈ wA := wA_of (n := 120) (by decide +kernel) (by decide +kernel)
theorem ws_C_waitAgain : Cond.static yC_waitAgain ∈ wA := wA_of (n := 121) (by decide +kernel) (by decide +kernel)
theorem wc_C_waitAgain : Cond.code yC_waitAgain bC_waitAgain 1 none ∈ wA := wA_of (n := 122) (by decide +kernel) (by decide +kernel)
theorem wm_C_88 : Cond.methodLink RX3 88 yC_becomeCancelled ∈ wA := wA_of (n := 123) (by decide +kernel) (by decide +kernel)
theorem ws_C_becomeCancelled : Cond.static yC_becomeCancelled ∈ wA := wA_of (n := 124) (by decide +kernel) (by decide +kernel)
theorem wc_C_becomeCancelled : Cond.code yC_becomeCancelled bC_becomeCancelled 1 none ∈ wA := wA_of (n := 125) (by decide +kernel) (by decide +kernel)
theorem wm_L_33 : Cond.methodLink RL 33 yC_quirk ∈ wA := wA_of (n := 126) (by decide +kernel) (by decide +kernel)
theorem wi_C_quirk : Cond.instanceMethod yC_quirk ∈ wA := wA_of (n := 127) (by decide +kernel) (by decide +kernel)
theorem wv_C_quirk : Cond.selects RX3 yC_quirk yC_quirk ∈ wA := wA_of (n := 128) (by decide +kernel) (by decide +kernel)
theorem wc_C_quirk : Cond.code yC_quirk bC_quirk 4 (some .boolean) ∈ wA := wA_of (n := 129) (by decide +kernel) (by decide +kernel)
theorem wm_L_38 : Cond.methodLink RL 38 yC_request ∈ wA := wA_of (n := 130) (by decide +kernel) (by decide +kernel)
theorem wi_C_request : Cond.instanceMethod yC_request ∈ wA := wA_of (n := 131) (by decide +kernel) (by decide +kernel)
theorem wv_C_request : Cond.selects RX3 yC_request yC_request ∈ wA := wA_of (n := 132) (by decide +kernel) (by decide +kernel)
theorem wc_C_request : Cond.code yC_request bC_request 7 (some .int) ∈ wA := wA_of (n := 133) (by decide +kernel) (by decide +kernel)
theorem wb_R : Cond.instantiable RX0 11 ∈ wA := wA_of (n := 134) (by decide +kernel) (by decide +kernel)
theorem wm_C_77 : Cond.methodLink RX3 77 yR_init ∈ wA := wA_of (n := 135) (by decide +kernel) (by decide +kernel)
theorem wi_R_init : Cond.instanceMethod yR_init ∈ wA := wA_of (n := 136) (by decide +kernel) (by decide +kernel)
theorem wc_R_init : Cond.code yR_init bR_init 6 none ∈ wA := wA_of (n := 137) (by decide +kernel) (by decide +kernel)
theorem wm_R_1 : Cond.methodLink RX0 1 objectInit ∈ wA := wA_of (n := 138) (by decide +kernel) (by decide +kernel)
theorem wf_R_7 : Cond.fieldLink RX0 7 "WorkerRows$Request" "number" "I" ∈ wA := wA_of (n := 139) (by decide +kernel) (by decide +kernel)
theorem wf_C_80 : Cond.fieldLink RX3 80 "WorkerRows$Request" "number" "I" ∈ wA := wA_of (n := 140) (by decide +kernel) (by decide +kernel)
theorem wf_R_13 : Cond.fieldLink RX0 13 "WorkerRows$Request" "tool" "LWorkerRows$Tool;" ∈ wA := wA_of (n := 141) (by decide +kernel) (by decide +kernel)
theorem wf_C_185 : Cond.fieldLink RX3 185 "WorkerRows$Request" "tool" "LWorkerRows$Tool;" ∈ wA := wA_of (n := 142) (by decide +kernel) (by decide +kernel)
theorem wf_R_17 : Cond.fieldLink RX0 17 "WorkerRows$Request" "input" "J" ∈ wA := wA_of (n := 143) (by decide +kernel) (by decide +kernel)
theorem wf_C_138 : Cond.fieldLink RX3 138 "WorkerRows$Request" "input" "J" ∈ wA := wA_of (n := 144) (by decide +kernel) (by decide +kernel)
theorem wf_R_21 : Cond.fieldLink RX0 21 "WorkerRows$Request" "size" "I" ∈ wA := wA_of (n := 145) (by decide +kernel) (by decide +kernel)
theorem wf_C_118 : Cond.fieldLink RX3 118 "WorkerRows$Request" "size" "I" ∈ wA := wA_of (n := 146) (by decide +kernel) (by decide +kernel)
theorem wf_C_85 : Cond.fieldLink RX3 85 "WorkerRows$Request" "state" "I" ∈ wA := wA_of (n := 147) (by decide +kernel) (by decide +kernel)
theorem wf_C_174 : Cond.fieldLink RX3 174 "WorkerRows$Request" "begun" "I" ∈ wA := wA_of (n := 148) (by decide +kernel) (by decide +kernel)
theorem wf_C_92 : Cond.fieldLink RX3 92 "WorkerRows$Request" "unwanted" "Z" ∈ wA := wA_of (n := 149) (by decide +kernel) (by decide +kernel)
theorem wf_C_177 : Cond.fieldLink RX3 177 "WorkerRows$Request" "redone" "Z" ∈ wA := wA_of (n := 150) (by decide +kernel) (by decide +kernel)
theorem wf_C_154 : Cond.fieldLink RX3 154 "WorkerRows$Request" "result" "J" ∈ wA := wA_of (n := 151) (by decide +kernel) (by decide +kernel)
theorem wf_C_150 : Cond.fieldLink RX3 150 "WorkerRows$Request" "worker" "LWorkerRows$Worker;" ∈ wA := wA_of (n := 152) (by decide +kernel) (by decide +kernel)
theorem wf_C_121 : Cond.fieldLink RX3 121 "WorkerRows$Request" "place" "I" ∈ wA := wA_of (n := 153) (by decide +kernel) (by decide +kernel)
theorem wm_L_43 : Cond.methodLink RL 43 yC_cancel ∈ wA := wA_of (n := 177) (by decide +kernel) (by decide +kernel)
theorem wi_C_cancel : Cond.instanceMethod yC_cancel ∈ wA := wA_of (n := 178) (by decide +kernel) (by decide +kernel)
theorem wv_C_cancel : Cond.selects RX3 yC_cancel yC_cancel ∈ wA := wA_of (n := 179) (by decide +kernel) (by decide +kernel)
theorem wc_C_cancel : Cond.code yC_cancel bC_cancel 3 (some .int) ∈ wA := wA_of (n := 180) (by decide +kernel) (by decide +kernel)
theorem wm_C_81 : Cond.methodLink RX3 81 yC_requestAt ∈ wA := wA_of (n := 181) (by decide +kernel) (by decide +kernel)
theorem wi_C_requestAt : Cond.instanceMethod yC_requestAt ∈ wA := wA_of (n := 183) (by decide +kernel) (by decide +kernel)
theorem wc_C_requestAt : Cond.code yC_requestAt bC_requestAt 2 (some (.object "WorkerRows$Request")) ∈ wA := wA_of (n := 184) (by decide +kernel) (by decide +kernel)
theorem wm_L_48 : Cond.methodLink RL 48 yC_step ∈ wA := wA_of (n := 185) (by decide +kernel) (by decide +kernel)
theorem wi_C_step : Cond.instanceMethod yC_step ∈ wA := wA_of (n := 186) (by decide +kernel) (by decide +kernel)
theorem wv_C_step : Cond.selects RX3 yC_step yC_step ∈ wA := wA_of (n := 187) (by decide +kernel) (by decide +kernel)
theorem wc_C_step : Cond.code yC_step bC_step 6 (some .int) ∈ wA := wA_of (n := 188) (by decide +kernel) (by decide +kernel)
theorem wm_C_96 : Cond.methodLink RX3 96 yC_moveOn ∈ wA := wA_of (n := 189) (by decide +kernel) (by decide +kernel)
theorem wi_C_moveOn : Cond.instanceMethod yC_moveOn ∈ wA := wA_of (n := 191) (by decide +kernel) (by decide +kernel)
theorem wc_C_moveOn : Cond.code yC_moveOn bC_moveOn 4 (some .boolean) ∈ wA := wA_of (n := 192) (by decide +kernel) (by decide +kernel)
theorem wm_C_141 : Cond.methodLink RX3 141 yC_freshRun ∈ wA := wA_of (n := 193) (by decide +kernel) (by decide +kernel)
theorem ws_C_freshRun : Cond.static yC_freshRun ∈ wA := wA_of (n := 194) (by decide +kernel) (by decide +kernel)
theorem wc_C_freshRun : Cond.code yC_freshRun bC_freshRun 7 (some .long) ∈ wA := wA_of (n := 195) (by decide +kernel) (by decide +kernel)
theorem wq_C_183 : Cond.constantLong RX3 183 (-7046029254386353131) ∈ wA := wA_of (n := 196) (by decide +kernel) (by decide +kernel)
theorem wm_C_124 : Cond.methodLink RX3 124 yC_leaveDone ∈ wA := wA_of (n := 197) (by decide +kernel) (by decide +kernel)
theorem ws_C_leaveDone : Cond.static yC_leaveDone ∈ wA := wA_of (n := 198) (by decide +kernel) (by decide +kernel)
theorem wc_C_leaveDone : Cond.code yC_leaveDone bC_leaveDone 4 none ∈ wA := wA_of (n := 199) (by decide +kernel) (by decide +kernel)
theorem wm_C_186 : Cond.methodLink RX3 186 yC_firstFree ∈ wA := wA_of (n := 200) (by decide +kernel) (by decide +kernel)
theorem wi_C_firstFree : Cond.instanceMethod yC_firstFree ∈ wA := wA_of (n := 202) (by decide +kernel) (by decide +kernel)
theorem wc_C_firstFree : Cond.code yC_firstFree bC_firstFree 6 (some (.object "WorkerRows$Worker")) ∈ wA := wA_of (n := 203) (by decide +kernel) (by decide +kernel)
theorem wm_C_146 : Cond.methodLink RX3 146 yC_stateOf ∈ wA := wA_of (n := 204) (by decide +kernel) (by decide +kernel)
theorem ws_C_stateOf : Cond.static yC_stateOf ∈ wA := wA_of (n := 205) (by decide +kernel) (by decide +kernel)
theorem wc_C_stateOf : Cond.code yC_stateOf bC_stateOf 1 (some .int) ∈ wA := wA_of (n := 206) (by decide +kernel) (by decide +kernel)
theorem wm_C_190 : Cond.methodLink RX3 190 yC_startWorker ∈ wA := wA_of (n := 207) (by decide +kernel) (by decide +kernel)
theorem wi_C_startWorker : Cond.instanceMethod yC_startWorker ∈ wA := wA_of (n := 209) (by decide +kernel) (by decide +kernel)
theorem wc_C_startWorker : Cond.code yC_startWorker bC_startWorker 3 (some (.object "WorkerRows$Worker")) ∈ wA := wA_of (n := 210) (by decide +kernel) (by decide +kernel)
theorem wm_C_200 : Cond.methodLink RX3 200 yC_countStaying ∈ wA := wA_of (n := 211) (by decide +kernel) (by decide +kernel)
theorem wi_C_countStaying : Cond.instanceMethod yC_countStaying ∈ wA := wA_of (n := 213) (by decide +kernel) (by decide +kernel)
theorem wc_C_countStaying : Cond.code yC_countStaying bC_countStaying 7 (some .int) ∈ wA := wA_of (n := 214) (by decide +kernel) (by decide +kernel)
theorem wb_W : Cond.instantiable RX2 9 ∈ wA := wA_of (n := 215) (by decide +kernel) (by decide +kernel)
theorem wm_C_204 : Cond.methodLink RX3 204 yW_init ∈ wA := wA_of (n := 216) (by decide +kernel) (by decide +kernel)
theorem wi_W_init : Cond.instanceMethod yW_init ∈ wA := wA_of (n := 217) (by decide +kernel) (by decide +kernel)
theorem wc_W_init : Cond.code yW_init bW_init 3 none ∈ wA := wA_of (n := 218) (by decide +kernel) (by decide +kernel)
theorem wm_W_1 : Cond.methodLink RX2 1 objectInit ∈ wA := wA_of (n := 219) (by decide +kernel) (by decide +kernel)
theorem wf_W_7 : Cond.fieldLink RX2 7 "WorkerRows$Worker" "number" "I" ∈ wA := wA_of (n := 220) (by decide +kernel) (by decide +kernel)
theorem wf_C_173 : Cond.fieldLink RX3 173 "WorkerRows$Worker" "number" "I" ∈ wA := wA_of (n := 221) (by decide +kernel) (by decide +kernel)
theorem wf_W_13 : Cond.fieldLink RX2 13 "WorkerRows$Worker" "tool" "LWorkerRows$Tool;" ∈ wA := wA_of (n := 222) (by decide +kernel) (by decide +kernel)
theorem wf_C_59 : Cond.fieldLink RX3 59 "WorkerRows$Worker" "tool" "LWorkerRows$Tool;" ∈ wA := wA_of (n := 223) (by decide +kernel) (by decide +kernel)
theorem wf_W_23 : Cond.fieldLink RX2 23 "WorkerRows$Worker" "edition" "J" ∈ wA := wA_of (n := 224) (by decide +kernel) (by decide +kernel)
theorem wf_C_137 : Cond.fieldLink RX3 137 "WorkerRows$Worker" "edition" "J" ∈ wA := wA_of (n := 225) (by decide +kernel) (by decide +kernel)
theorem wf_C_112 : Cond.fieldLink RX3 112 "WorkerRows$Worker" "finished" "I" ∈ wA := wA_of (n := 226) (by decide +kernel) (by decide +kernel)
theorem wf_C_157 : Cond.fieldLink RX3 157 "WorkerRows$Worker" "trusted" "I" ∈ wA := wA_of (n := 227) (by decide +kernel) (by decide +kernel)
theorem wf_C_115 : Cond.fieldLink RX3 115 "WorkerRows$Worker" "memory" "I" ∈ wA := wA_of (n := 228) (by decide +kernel) (by decide +kernel)
theorem wf_C_134 : Cond.fieldLink RX3 134 "WorkerRows$Worker" "freeSince" "I" ∈ wA := wA_of (n := 229) (by decide +kernel) (by decide +kernel)
theorem wf_C_128 : Cond.fieldLink RX3 128 "WorkerRows$Worker" "endedBy" "I" ∈ wA := wA_of (n := 230) (by decide +kernel) (by decide +kernel)
theorem wf_C_104 : Cond.fieldLink RX3 104 "WorkerRows$Worker" "request" "LWorkerRows$Request;" ∈ wA := wA_of (n := 231) (by decide +kernel) (by decide +kernel)
theorem wm_C_193 : Cond.methodLink RX3 193 yC_beginWith ∈ wA := wA_of (n := 251) (by decide +kernel) (by decide +kernel)
theorem ws_C_beginWith : Cond.static yC_beginWith ∈ wA := wA_of (n := 252) (by decide +kernel) (by decide +kernel)
theorem wc_C_beginWith : Cond.code yC_beginWith bC_beginWith 2 none ∈ wA := wA_of (n := 253) (by decide +kernel) (by decide +kernel)
theorem wm_L_53 : Cond.methodLink RL 53 yC_finish ∈ wA := wA_of (n := 254) (by decide +kernel) (by decide +kernel)
theorem wi_C_finish : Cond.instanceMethod yC_finish ∈ wA := wA_of (n := 255) (by decide +kernel) (by decide +kernel)
theorem wv_C_finish : Cond.selects RX3 yC_finish yC_finish ∈ wA := wA_of (n := 256) (by decide +kernel) (by decide +kernel)
theorem wc_C_finish : Cond.code yC_finish bC_finish 6 (some .int) ∈ wA := wA_of (n := 257) (by decide +kernel) (by decide +kernel)
theorem wm_C_100 : Cond.methodLink RX3 100 yC_workerAt ∈ wA := wA_of (n := 258) (by decide +kernel) (by decide +kernel)
theorem wi_C_workerAt : Cond.instanceMethod yC_workerAt ∈ wA := wA_of (n := 260) (by decide +kernel) (by decide +kernel)
theorem wc_C_workerAt : Cond.code yC_workerAt bC_workerAt 2 (some (.object "WorkerRows$Worker")) ∈ wA := wA_of (n := 261) (by decide +kernel) (by decide +kernel)
theorem wm_C_108 : Cond.methodLink RX3 108 yC_whatItGives ∈ wA := wA_of (n := 262) (by decide +kernel) (by decide +kernel)
theorem ws_C_whatItGives : Cond.static yC_whatItGives ∈ wA := wA_of (n := 263) (by decide +kernel) (by decide +kernel)
theorem wc_C_whatItGives : Cond.code yC_whatItGives bC_whatItGives 4 (some .long) ∈ wA := wA_of (n := 264) (by decide +kernel) (by decide +kernel)
theorem wm_L_57 : Cond.methodLink RL 57 yC_crash ∈ wA := wA_of (n := 265) (by decide +kernel) (by decide +kernel)
theorem wi_C_crash : Cond.instanceMethod yC_crash ∈ wA := wA_of (n := 266) (by decide +kernel) (by decide +kernel)
theorem wv_C_crash : Cond.selects RX3 yC_crash yC_crash ∈ wA := wA_of (n := 267) (by decide +kernel) (by decide +kernel)
theorem wc_C_crash : Cond.code yC_crash bC_crash 4 (some .int) ∈ wA := wA_of (n := 268) (by decide +kernel) (by decide +kernel)
theorem wm_L_61 : Cond.methodLink RL 61 yC_tick ∈ wA := wA_of (n := 269) (by decide +kernel) (by decide +kernel)
theorem wi_C_tick : Cond.instanceMethod yC_tick ∈ wA := wA_of (n := 270) (by decide +kernel) (by decide +kernel)
theorem wv_C_tick : Cond.selects RX3 yC_tick yC_tick ∈ wA := wA_of (n := 271) (by decide +kernel) (by decide +kernel)
theorem wc_C_tick : Cond.code yC_tick bC_tick 7 (some .int) ∈ wA := wA_of (n := 272) (by decide +kernel) (by decide +kernel)
theorem wq_C_145 : Cond.constant RX3 145 (1000000000) ∈ wA := wA_of (n := 273) (by decide +kernel) (by decide +kernel)
theorem wm_L_65 : Cond.methodLink RL 65 yC_sample ∈ wA := wA_of (n := 274) (by decide +kernel) (by decide +kernel)
theorem wi_C_sample : Cond.instanceMethod yC_sample ∈ wA := wA_of (n := 275) (by decide +kernel) (by decide +kernel)
theorem wv_C_sample : Cond.selects RX3 yC_sample yC_sample ∈ wA := wA_of (n := 276) (by decide +kernel) (by decide +kernel)
theorem wc_C_sample : Cond.code yC_sample bC_sample 5 (some .int) ∈ wA := wA_of (n := 277) (by decide +kernel) (by decide +kernel)
theorem wm_C_166 : Cond.methodLink RX3 166 yC_redoUntrusted ∈ wA := wA_of (n := 278) (by decide +kernel) (by decide +kernel)
theorem wi_C_redoUntrusted : Cond.instanceMethod yC_redoUntrusted ∈ wA := wA_of (n := 280) (by decide +kernel) (by decide +kernel)
theorem wc_C_redoUntrusted : Cond.code yC_redoUntrusted bC_redoUntrusted 8 (some .int) ∈ wA := wA_of (n := 281) (by decide +kernel) (by decide +kernel)
theorem wm_L_69 : Cond.methodLink RL 69 yC_about ∈ wA := wA_of (n := 282) (by decide +kernel) (by decide +kernel)
theorem wi_C_about : Cond.instanceMethod yC_about ∈ wA := wA_of (n := 283) (by decide +kernel) (by decide +kernel)
theorem wv_C_about : Cond.selects RX3 yC_about yC_about ∈ wA := wA_of (n := 284) (by decide +kernel) (by decide +kernel)
theorem wc_C_about : Cond.code yC_about bC_about 4 (some .int) ∈ wA := wA_of (n := 285) (by decide +kernel) (by decide +kernel)
theorem wm_L_74 : Cond.methodLink RL 74 yC_result ∈ wA := wA_of (n := 286) (by decide +kernel) (by decide +kernel)
theorem wi_C_result : Cond.instanceMethod yC_result ∈ wA := wA_of (n := 287) (by decide +kernel) (by decide +kernel)
theorem wv_C_result : Cond.selects RX3 yC_result yC_result ∈ wA := wA_of (n := 288) (by decide +kernel) (by decide +kernel)
theorem wc_C_result : Cond.code yC_result bC_result 3 (some .long) ∈ wA := wA_of (n := 289) (by decide +kernel) (by decide +kernel)
theorem wm_L_79 : Cond.methodLink RL 79 yC_worker ∈ wA := wA_of (n := 290) (by decide +kernel) (by decide +kernel)
theorem wi_C_worker : Cond.instanceMethod yC_worker ∈ wA := wA_of (n := 291) (by decide +kernel) (by decide +kernel)
theorem wv_C_worker : Cond.selects RX3 yC_worker yC_worker ∈ wA := wA_of (n := 292) (by decide +kernel) (by decide +kernel)
theorem wc_C_worker : Cond.code yC_worker bC_worker 4 (some .int) ∈ wA := wA_of (n := 293) (by decide +kernel) (by decide +kernel)
theorem wm_L_83 : Cond.methodLink RL 83 yC_bars ∈ wA := wA_of (n := 294) (by decide +kernel) (by decide +kernel)
theorem wi_C_bars : Cond.instanceMethod yC_bars ∈ wA := wA_of (n := 295) (by decide +kernel) (by decide +kernel)
theorem wv_C_bars : Cond.selects RX3 yC_bars yC_bars ∈ wA := wA_of (n := 296) (by decide +kernel) (by decide +kernel)
theorem wc_C_bars : Cond.code yC_bars bC_bars 3 (some .int) ∈ wA := wA_of (n := 297) (by decide +kernel) (by decide +kernel)
theorem wm_L_87 : Cond.methodLink RL 87 yC_oneShot ∈ wA := wA_of (n := 298) (by decide +kernel) (by decide +kernel)
theorem wi_C_oneShot : Cond.instanceMethod yC_oneShot ∈ wA := wA_of (n := 299) (by decide +kernel) (by decide +kernel)
theorem wv_C_oneShot : Cond.selects RX3 yC_oneShot yC_oneShot ∈ wA := wA_of (n := 300) (by decide +kernel) (by decide +kernel)
theorem wc_C_oneShot : Cond.code yC_oneShot bC_oneShot 5 (some .long) ∈ wA := wA_of (n := 301) (by decide +kernel) (by decide +kernel)
theorem wm_L_9 : Cond.methodLink RL 9 yL_cell ∈ wA := wA_of (n := 302) (by decide +kernel) (by decide +kernel)
theorem ws_L_cell : Cond.static yL_cell ∈ wA := wA_of (n := 303) (by decide +kernel) (by decide +kernel)
theorem wc_L_cell : Cond.code yL_cell bL_cell 2 (some .int) ∈ wA := wA_of (n := 304) (by decide +kernel) (by decide +kernel)
theorem wk_L_18 : Cond.classLink RL 18 RX4 ∈ wA := wA_of (n := 305) (by decide +kernel) (by decide +kernel)
theorem wb_M : Cond.instantiable RX4 29 ∈ wA := wA_of (n := 306) (by decide +kernel) (by decide +kernel)
theorem wm_L_20 : Cond.methodLink RL 20 yM_init ∈ wA := wA_of (n := 307) (by decide +kernel) (by decide +kernel)
theorem wi_M_init : Cond.instanceMethod yM_init ∈ wA := wA_of (n := 308) (by decide +kernel) (by decide +kernel)
theorem wc_M_init : Cond.code yM_init bM_init 4 none ∈ wA := wA_of (n := 309) (by decide +kernel) (by decide +kernel)
theorem wm_M_1 : Cond.methodLink RX4 1 objectInit ∈ wA := wA_of (n := 310) (by decide +kernel) (by decide +kernel)
theorem wm_M_78 : Cond.methodLink RX4 78 yM_between ∈ wA := wA_of (n := 311) (by decide +kernel) (by decide +kernel)
theorem ws_M_between : Cond.static yM_between ∈ wA := wA_of (n := 312) (by decide +kernel) (by decide +kernel)
theorem wc_M_between : Cond.code yM_between bM_between 3 (some .int) ∈ wA := wA_of (n := 313) (by decide +kernel) (by decide +kernel)
theorem wq_M_86 : Cond.constant RX4 86 (100000) ∈ wA := wA_of (n := 314) (by decide +kernel) (by decide +kernel)
theorem wf_M_82 : Cond.fieldLink RX4 82 "WorkerRowsModel" "most" "I" ∈ wA := wA_of (n := 315) (by decide +kernel) (by decide +kernel)
theorem wf_M_87 : Cond.fieldLink RX4 87 "WorkerRowsModel" "bound" "I" ∈ wA := wA_of (n := 316) (by decide +kernel) (by decide +kernel)
theorem wf_M_90 : Cond.fieldLink RX4 90 "WorkerRowsModel" "idle" "I" ∈ wA := wA_of (n := 317) (by decide +kernel) (by decide +kernel)
theorem wf_M_134 : Cond.fieldLink RX4 134 "WorkerRowsModel" "clock" "I" ∈ wA := wA_of (n := 318) (by decide +kernel) (by decide +kernel)
theorem wf_M_93 : Cond.fieldLink RX4 93 "WorkerRowsModel" "tools" "I" ∈ wA := wA_of (n := 319) (by decide +kernel) (by decide +kernel)
theorem wf_M_107 : Cond.fieldLink RX4 107 "WorkerRowsModel" "workers" "I" ∈ wA := wA_of (n := 320) (by decide +kernel) (by decide +kernel)
theorem wf_M_100 : Cond.fieldLink RX4 100 "WorkerRowsModel" "requests" "I" ∈ wA := wA_of (n := 321) (by decide +kernel) (by decide +kernel)
theorem wf_M_7 : Cond.fieldLink RX4 7 "WorkerRowsModel" "editionOf" "[J" ∈ wA := wA_of (n := 322) (by decide +kernel) (by decide +kernel)
theorem wf_M_13 : Cond.fieldLink RX4 13 "WorkerRowsModel" "quirkOf" "[I" ∈ wA := wA_of (n := 323) (by decide +kernel) (by decide +kernel)
theorem wf_M_17 : Cond.fieldLink RX4 17 "WorkerRowsModel" "barsOf" "[I" ∈ wA := wA_of (n := 324) (by decide +kernel) (by decide +kernel)
theorem wf_M_20 : Cond.fieldLink RX4 20 "WorkerRowsModel" "toolOf" "[I" ∈ wA := wA_of (n := 325) (by decide +kernel) (by decide +kernel)
theorem wf_M_23 : Cond.fieldLink RX4 23 "WorkerRowsModel" "state" "[I" ∈ wA := wA_of (n := 326) (by decide +kernel) (by decide +kernel)
theorem wf_M_26 : Cond.fieldLink RX4 26 "WorkerRowsModel" "finished" "[I" ∈ wA := wA_of (n := 327) (by decide +kernel) (by decide +kernel)
theorem wf_M_29 : Cond.fieldLink RX4 29 "WorkerRowsModel" "memory" "[I" ∈ wA := wA_of (n := 328) (by decide +kernel) (by decide +kernel)
theorem wf_M_32 : Cond.fieldLink RX4 32 "WorkerRowsModel" "busyWith" "[I" ∈ wA := wA_of (n := 329) (by decide +kernel) (by decide +kernel)
theorem wf_M_35 : Cond.fieldLink RX4 35 "WorkerRowsModel" "why" "[I" ∈ wA := wA_of (n := 330) (by decide +kernel) (by decide +kernel)
theorem wf_M_38 : Cond.fieldLink RX4 38 "WorkerRowsModel" "trusted" "[I" ∈ wA := wA_of (n := 331) (by decide +kernel) (by decide +kernel)
theorem wf_M_41 : Cond.fieldLink RX4 41 "WorkerRowsModel" "since" "[I" ∈ wA := wA_of (n := 332) (by decide +kernel) (by decide +kernel)
theorem wf_M_44 : Cond.fieldLink RX4 44 "WorkerRowsModel" "startedWith" "[J" ∈ wA := wA_of (n := 333) (by decide +kernel) (by decide +kernel)
theorem wf_M_47 : Cond.fieldLink RX4 47 "WorkerRowsModel" "wants" "[I" ∈ wA := wA_of (n := 334) (by decide +kernel) (by decide +kernel)
theorem wf_M_50 : Cond.fieldLink RX4 50 "WorkerRowsModel" "size" "[I" ∈ wA := wA_of (n := 335) (by decide +kernel) (by decide +kernel)
theorem wf_M_53 : Cond.fieldLink RX4 53 "WorkerRowsModel" "kind" "[I" ∈ wA := wA_of (n := 336) (by decide +kernel) (by decide +kernel)
theorem wf_M_56 : Cond.fieldLink RX4 56 "WorkerRowsModel" "by" "[I" ∈ wA := wA_of (n := 337) (by decide +kernel) (by decide +kernel)
theorem wf_M_59 : Cond.fieldLink RX4 59 "WorkerRowsModel" "place" "[I" ∈ wA := wA_of (n := 338) (by decide +kernel) (by decide +kernel)
theorem wf_M_62 : Cond.fieldLink RX4 62 "WorkerRowsModel" "begun" "[I" ∈ wA := wA_of (n := 339) (by decide +kernel) (by decide +kernel)
theorem wf_M_65 : Cond.fieldLink RX4 65 "WorkerRowsModel" "isUnwanted" "[Z" ∈ wA := wA_of (n := 340) (by decide +kernel) (by decide +kernel)
theorem wf_M_69 : Cond.fieldLink RX4 69 "WorkerRowsModel" "isRedone" "[Z" ∈ wA := wA_of (n := 341) (by decide +kernel) (by decide +kernel)
theorem wf_M_72 : Cond.fieldLink RX4 72 "WorkerRowsModel" "input" "[J" ∈ wA := wA_of (n := 342) (by decide +kernel) (by decide +kernel)
theorem wf_M_75 : Cond.fieldLink RX4 75 "WorkerRowsModel" "gave" "[J" ∈ wA := wA_of (n := 343) (by decide +kernel) (by decide +kernel)
theorem wr_long : Cond.arrayClass .long ∈ wA := wA_of (n := 403) (by decide +kernel) (by decide +kernel)
theorem wr_int : Cond.arrayClass .int ∈ wA := wA_of (n := 404) (by decide +kernel) (by decide +kernel)
theorem wr_boolean : Cond.arrayClass .boolean ∈ wA := wA_of (n := 405) (by decide +kernel) (by decide +kernel)
theorem wm_L_27 : Cond.methodLink RL 27 yM_tool ∈ wA := wA_of (n := 406) (by decide +kernel) (by decide +kernel)
theorem wi_M_tool : Cond.instanceMethod yM_tool ∈ wA := wA_of (n := 407) (by decide +kernel) (by decide +kernel)
theorem wv_M_tool : Cond.selects RX4 yM_tool yM_tool ∈ wA := wA_of (n := 408) (by decide +kernel) (by decide +kernel)
theorem wc_M_tool : Cond.code yM_tool bM_tool 4 (some .int) ∈ wA := wA_of (n := 409) (by decide +kernel) (by decide +kernel)
theorem wm_L_37 : Cond.methodLink RL 37 yM_quirk ∈ wA := wA_of (n := 410) (by decide +kernel) (by decide +kernel)
theorem wi_M_quirk : Cond.instanceMethod yM_quirk ∈ wA := wA_of (n := 411) (by decide +kernel) (by decide +kernel)
theorem wv_M_quirk : Cond.selects RX4 yM_quirk yM_quirk ∈ wA := wA_of (n := 412) (by decide +kernel) (by decide +kernel)
theorem wc_M_quirk : Cond.code yM_quirk bM_quirk 3 (some .boolean) ∈ wA := wA_of (n := 413) (by decide +kernel) (by decide +kernel)
theorem wm_M_96 : Cond.methodLink RX4 96 yM_in ∈ wA := wA_of (n := 414) (by decide +kernel) (by decide +kernel)
theorem ws_M_in : Cond.static yM_in ∈ wA := wA_of (n := 415) (by decide +kernel) (by decide +kernel)
theorem wc_M_in : Cond.code yM_in bM_in 2 (some .boolean) ∈ wA := wA_of (n := 416) (by decide +kernel) (by decide +kernel)
theorem wm_L_42 : Cond.methodLink RL 42 yM_request ∈ wA := wA_of (n := 417) (by decide +kernel) (by decide +kernel)
theorem wi_M_request : Cond.instanceMethod yM_request ∈ wA := wA_of (n := 418) (by decide +kernel) (by decide +kernel)
theorem wv_M_request : Cond.selects RX4 yM_request yM_request ∈ wA := wA_of (n := 419) (by decide +kernel) (by decide +kernel)
theorem wc_M_request : Cond.code yM_request bM_request 6 (some .int) ∈ wA := wA_of (n := 420) (by decide +kernel) (by decide +kernel)
theorem wm_L_47 : Cond.methodLink RL 47 yM_cancel ∈ wA := wA_of (n := 421) (by decide +kernel) (by decide +kernel)
theorem wi_M_cancel : Cond.instanceMethod yM_cancel ∈ wA := wA_of (n := 422) (by decide +kernel) (by decide +kernel)
theorem wv_M_cancel : Cond.selects RX4 yM_cancel yM_cancel ∈ wA := wA_of (n := 423) (by decide +kernel) (by decide +kernel)
theorem wc_M_cancel : Cond.code yM_cancel bM_cancel 2 (some .int) ∈ wA := wA_of (n := 424) (by decide +kernel) (by decide +kernel)
theorem wm_L_52 : Cond.methodLink RL 52 yM_step ∈ wA := wA_of (n := 425) (by decide +kernel) (by decide +kernel)
theorem wi_M_step : Cond.instanceMethod yM_step ∈ wA := wA_of (n := 426) (by decide +kernel) (by decide +kernel)
theorem wv_M_step : Cond.selects RX4 yM_step yM_step ∈ wA := wA_of (n := 427) (by decide +kernel) (by decide +kernel)
theorem wc_M_step : Cond.code yM_step bM_step 3 (some .int) ∈ wA := wA_of (n := 428) (by decide +kernel) (by decide +kernel)
theorem wm_M_128 : Cond.methodLink RX4 128 yM_goes ∈ wA := wA_of (n := 429) (by decide +kernel) (by decide +kernel)
theorem wi_M_goes : Cond.instanceMethod yM_goes ∈ wA := wA_of (n := 431) (by decide +kernel) (by decide +kernel)
theorem wc_M_goes : Cond.code yM_goes bM_goes 4 (some .boolean) ∈ wA := wA_of (n := 432) (by decide +kernel) (by decide +kernel)
theorem wm_M_110 : Cond.methodLink RX4 110 yM_oneShot ∈ wA := wA_of (n := 433) (by decide +kernel) (by decide +kernel)
theorem wi_M_oneShot : Cond.instanceMethod yM_oneShot ∈ wA := wA_of (n := 434) (by decide +kernel) (by decide +kernel)
theorem wv_M_oneShot : Cond.selects RX4 yM_oneShot yM_oneShot ∈ wA := wA_of (n := 435) (by decide +kernel) (by decide +kernel)
theorem wc_M_oneShot : Cond.code yM_oneShot bM_oneShot 8 (some .long) ∈ wA := wA_of (n := 436) (by decide +kernel) (by decide +kernel)
theorem wq_M_149 : Cond.constantLong RX4 149 (-7046029254386353131) ∈ wA := wA_of (n := 437) (by decide +kernel) (by decide +kernel)
theorem wm_M_114 : Cond.methodLink RX4 114 yM_answers ∈ wA := wA_of (n := 438) (by decide +kernel) (by decide +kernel)
theorem wi_M_answers : Cond.instanceMethod yM_answers ∈ wA := wA_of (n := 440) (by decide +kernel) (by decide +kernel)
theorem wc_M_answers : Cond.code yM_answers bM_answers 4 none ∈ wA := wA_of (n := 441) (by decide +kernel) (by decide +kernel)
theorem wm_M_118 : Cond.methodLink RX4 118 yM_freeOne ∈ wA := wA_of (n := 442) (by decide +kernel) (by decide +kernel)
theorem wi_M_freeOne : Cond.instanceMethod yM_freeOne ∈ wA := wA_of (n := 444) (by decide +kernel) (by decide +kernel)
theorem wc_M_freeOne : Cond.code yM_freeOne bM_freeOne 4 (some .int) ∈ wA := wA_of (n := 445) (by decide +kernel) (by decide +kernel)
theorem wm_M_122 : Cond.methodLink RX4 122 yM_alive ∈ wA := wA_of (n := 446) (by decide +kernel) (by decide +kernel)
theorem wi_M_alive : Cond.instanceMethod yM_alive ∈ wA := wA_of (n := 448) (by decide +kernel) (by decide +kernel)
theorem wc_M_alive : Cond.code yM_alive bM_alive 4 (some .int) ∈ wA := wA_of (n := 449) (by decide +kernel) (by decide +kernel)
theorem wm_M_125 : Cond.methodLink RX4 125 yM_newOne ∈ wA := wA_of (n := 450) (by decide +kernel) (by decide +kernel)
theorem wi_M_newOne : Cond.instanceMethod yM_newOne ∈ wA := wA_of (n := 452) (by decide +kernel) (by decide +kernel)
theorem wc_M_newOne : Cond.code yM_newOne bM_newOne 3 (some .int) ∈ wA := wA_of (n := 453) (by decide +kernel) (by decide +kernel)
theorem wm_L_56 : Cond.methodLink RL 56 yM_finish ∈ wA := wA_of (n := 454) (by decide +kernel) (by decide +kernel)
theorem wi_M_finish : Cond.instanceMethod yM_finish ∈ wA := wA_of (n := 455) (by decide +kernel) (by decide +kernel)
theorem wv_M_finish : Cond.selects RX4 yM_finish yM_finish ∈ wA := wA_of (n := 456) (by decide +kernel) (by decide +kernel)
theorem wc_M_finish : Cond.code yM_finish bM_finish 4 (some .int) ∈ wA := wA_of (n := 457) (by decide +kernel) (by decide +kernel)
theorem wm_M_131 : Cond.methodLink RX4 131 yM_isBusy ∈ wA := wA_of (n := 458) (by decide +kernel) (by decide +kernel)
theorem wi_M_isBusy : Cond.instanceMethod yM_isBusy ∈ wA := wA_of (n := 460) (by decide +kernel) (by decide +kernel)
theorem wc_M_isBusy : Cond.code yM_isBusy bM_isBusy 2 (some .boolean) ∈ wA := wA_of (n := 461) (by decide +kernel) (by decide +kernel)
theorem wm_M_103 : Cond.methodLink RX4 103 yM_lets ∈ wA := wA_of (n := 462) (by decide +kernel) (by decide +kernel)
theorem wi_M_lets : Cond.instanceMethod yM_lets ∈ wA := wA_of (n := 464) (by decide +kernel) (by decide +kernel)
theorem wc_M_lets : Cond.code yM_lets bM_lets 2 (some .boolean) ∈ wA := wA_of (n := 465) (by decide +kernel) (by decide +kernel)
theorem wm_M_137 : Cond.methodLink RX4 137 yM_ends ∈ wA := wA_of (n := 466) (by decide +kernel) (by decide +kernel)
theorem wi_M_ends : Cond.instanceMethod yM_ends ∈ wA := wA_of (n := 468) (by decide +kernel) (by decide +kernel)
theorem wc_M_ends : Cond.code yM_ends bM_ends 4 (some .int) ∈ wA := wA_of (n := 469) (by decide +kernel) (by decide +kernel)
theorem wm_L_60 : Cond.methodLink RL 60 yM_crash ∈ wA := wA_of (n := 470) (by decide +kernel) (by decide +kernel)
theorem wi_M_crash : Cond.instanceMethod yM_crash ∈ wA := wA_of (n := 471) (by decide +kernel) (by decide +kernel)
theorem wv_M_crash : Cond.selects RX4 yM_crash yM_crash ∈ wA := wA_of (n := 472) (by decide +kernel) (by decide +kernel)
theorem wc_M_crash : Cond.code yM_crash bM_crash 4 (some .int) ∈ wA := wA_of (n := 473) (by decide +kernel) (by decide +kernel)
theorem wm_L_32 : Cond.methodLink RL 32 yM_edition ∈ wA := wA_of (n := 474) (by decide +kernel) (by decide +kernel)
theorem wi_M_edition : Cond.instanceMethod yM_edition ∈ wA := wA_of (n := 475) (by decide +kernel) (by decide +kernel)
theorem wv_M_edition : Cond.selects RX4 yM_edition yM_edition ∈ wA := wA_of (n := 476) (by decide +kernel) (by decide +kernel)
theorem wc_M_edition : Cond.code yM_edition bM_edition 8 (some .int) ∈ wA := wA_of (n := 477) (by decide +kernel) (by decide +kernel)
theorem wm_M_141 : Cond.methodLink RX4 141 yM_waitsAgain ∈ wA := wA_of (n := 478) (by decide +kernel) (by decide +kernel)
theorem wi_M_waitsAgain : Cond.instanceMethod yM_waitsAgain ∈ wA := wA_of (n := 480) (by decide +kernel) (by decide +kernel)
theorem wc_M_waitsAgain : Cond.code yM_waitsAgain bM_waitsAgain 2 none ∈ wA := wA_of (n := 481) (by decide +kernel) (by decide +kernel)
theorem wm_L_64 : Cond.methodLink RL 64 yM_tick ∈ wA := wA_of (n := 482) (by decide +kernel) (by decide +kernel)
theorem wi_M_tick : Cond.instanceMethod yM_tick ∈ wA := wA_of (n := 483) (by decide +kernel) (by decide +kernel)
theorem wv_M_tick : Cond.selects RX4 yM_tick yM_tick ∈ wA := wA_of (n := 484) (by decide +kernel) (by decide +kernel)
theorem wc_M_tick : Cond.code yM_tick bM_tick 5 (some .int) ∈ wA := wA_of (n := 485) (by decide +kernel) (by decide +kernel)
theorem wq_M_145 : Cond.constant RX4 145 (1000000000) ∈ wA := wA_of (n := 486) (by decide +kernel) (by decide +kernel)
theorem wm_L_68 : Cond.methodLink RL 68 yM_sample ∈ wA := wA_of (n := 487) (by decide +kernel) (by decide +kernel)
theorem wi_M_sample : Cond.instanceMethod yM_sample ∈ wA := wA_of (n := 488) (by decide +kernel) (by decide +kernel)
theorem wv_M_sample : Cond.selects RX4 yM_sample yM_sample ∈ wA := wA_of (n := 489) (by decide +kernel) (by decide +kernel)
theorem wc_M_sample : Cond.code yM_sample bM_sample 6 (some .int) ∈ wA := wA_of (n := 490) (by decide +kernel) (by decide +kernel)
theorem wm_M_146 : Cond.methodLink RX4 146 yM_isDoneBy ∈ wA := wA_of (n := 491) (by decide +kernel) (by decide +kernel)
theorem wi_M_isDoneBy : Cond.instanceMethod yM_isDoneBy ∈ wA := wA_of (n := 493) (by decide +kernel) (by decide +kernel)
theorem wc_M_isDoneBy : Cond.code yM_isDoneBy bM_isDoneBy 3 (some .boolean) ∈ wA := wA_of (n := 494) (by decide +kernel) (by decide +kernel)
theorem wm_L_73 : Cond.methodLink RL 73 yM_about ∈ wA := wA_of (n := 495) (by decide +kernel) (by decide +kernel)
theorem wi_M_about : Cond.instanceMethod yM_about ∈ wA := wA_of (n := 496) (by decide +kernel) (by decide +kernel)
theorem wv_M_about : Cond.selects RX4 yM_about yM_about ∈ wA := wA_of (n := 497) (by decide +kernel) (by decide +kernel)
theorem wc_M_about : Cond.code yM_about bM_about 3 (some .int) ∈ wA := wA_of (n := 498) (by decide +kernel) (by decide +kernel)
theorem wm_L_78 : Cond.methodLink RL 78 yM_result ∈ wA := wA_of (n := 499) (by decide +kernel) (by decide +kernel)
theorem wi_M_result : Cond.instanceMethod yM_result ∈ wA := wA_of (n := 500) (by decide +kernel) (by decide +kernel)
theorem wv_M_result : Cond.selects RX4 yM_result yM_result ∈ wA := wA_of (n := 501) (by decide +kernel) (by decide +kernel)
theorem wc_M_result : Cond.code yM_result bM_result 2 (some .long) ∈ wA := wA_of (n := 502) (by decide +kernel) (by decide +kernel)
theorem wm_L_82 : Cond.methodLink RL 82 yM_worker ∈ wA := wA_of (n := 503) (by decide +kernel) (by decide +kernel)
theorem wi_M_worker : Cond.instanceMethod yM_worker ∈ wA := wA_of (n := 504) (by decide +kernel) (by decide +kernel)
theorem wv_M_worker : Cond.selects RX4 yM_worker yM_worker ∈ wA := wA_of (n := 505) (by decide +kernel) (by decide +kernel)
theorem wc_M_worker : Cond.code yM_worker bM_worker 3 (some .int) ∈ wA := wA_of (n := 506) (by decide +kernel) (by decide +kernel)
theorem wm_L_86 : Cond.methodLink RL 86 yM_bars ∈ wA := wA_of (n := 507) (by decide +kernel) (by decide +kernel)
theorem wi_M_bars : Cond.instanceMethod yM_bars ∈ wA := wA_of (n := 508) (by decide +kernel) (by decide +kernel)
theorem wv_M_bars : Cond.selects RX4 yM_bars yM_bars ∈ wA := wA_of (n := 509) (by decide +kernel) (by decide +kernel)
theorem wc_M_bars : Cond.code yM_bars bM_bars 2 (some .int) ∈ wA := wA_of (n := 510) (by decide +kernel) (by decide +kernel)
theorem wm_L_91 : Cond.methodLink RL 91 yM_oneShot ∈ wA := wA_of (n := 511) (by decide +kernel) (by decide +kernel)
theorem wq_L_21 : Cond.constantLong RL 21 (4294967295) ∈ wA := wA_of (n := 512) (by decide +kernel) (by decide +kernel)
end
section
/-! POOL WORLDS: a world is a list LL of addresses and f, what lies at each; rows by membership -/
section PW
theorem pw_at {f : Nat → va_E} {LL : List Nat} {a : Nat} {x : va_E} (ha : a ∈ LL) (hf : f a = x) : ∃ k : Nat, (va_pl LL f)[k]? = some (a, x) := by
  obtain ⟨k, hk⟩ := va_pl_get (X := []) (f := f) ha
  exact ⟨k, by rw [← hf]; exact hk⟩
theorem pw_set {A : Nat → Prop} {LL : List Nat} {f : Nat → va_E} {a k : Nat} {x y : va_E} (hD : va_D A (va_pl LL f)) (ha : a ∈ LL) (hf : f a = x) (hk : (va_pl LL f)[k]? = some (a, x)) : (va_pl LL f).set k (a, y) = va_pl LL (va_up f a y) := by
  subst hf
  exact va_pl_set (X := []) hD ha hk
variable {p : Program} {l : Launch} {e : Env} {R : Room} {s : State} {m : MethodId} {args : Array Value} {below : List Frame} {meth : Method} {c : Code} {H : Heap} {locs : List Loc} {cells slots : Nat} {Q : State → Prop}
variable {cc : ByteArray} {pc : Nat} {ls : Array Slot} {rest : List Value} {D : va_G} {cl : List vw_C} {A : Nat → Prop} {a : Nat} {tys : List (ClassId × FieldType)} {H0 : Heap} {LL : List Nat} {f : Nat → va_E}
theorem pw_get (hexec : p.tables.exec = Jvm.exec) (hb : c.code = cc) {own C : String} {T : u_T} {N ci index : Nat} {Ts : List Cond} (hts : ∀ w ∈ Ts, w.before args s = true) (hin : ∀ w ∈ u_ws C T N, w ∈ Ts) (hown : s.vm.findClass own = some m.cls) (hK : va_K D cl tys s) (hP : va_P D cl (va_pl LL f) H) {fs : List Value} (ha : a ∈ LL) (hf : f a = .inr (ci, fs)) (hc : cl[ci]? = some (C, T, N)) (k : Nat) (hk : k < N) (hlink : (Cond.fieldLink own index (T k).1 (T k).2.1 (T k).2.2.1).before args s = true) {v : Value} (hv : fs[k]? = some v) (hdg : decode cc pc = .ok (.getfield index, 3))
    (kk : W p l e R s m args below meth c H locs cells slots Q (F0 m (pc + 3) ls (v :: rest))) : W p l e R s m args below meth c H locs cells slots Q (F0 m pc ls (.ref a :: rest)) := by
  obtain ⟨j, hj⟩ := pw_at ha hf
  exact va_get hexec hb hts hin hown hK hP j hj hc k hk hlink (fun _ h => h) hv hdg kk
theorem pw_put (hexec : p.tables.exec = Jvm.exec) (hb : c.code = cc) {own C : String} {T : u_T} {N ci index : Nat} {Ts : List Cond} (hts : ∀ w ∈ Ts, w.before args s = true) (hin : ∀ w ∈ u_ws C T N, w ∈ Ts) (ty0 : Nat → FieldType) (hty : ∀ k, k < N → parseFieldDescriptor (T k).2.2.1 = some (ty0 k)) (hnm : ∀ a, a < N → ∀ b, b < N → a ≠ b → (T a).2.1 ≠ (T b).2.1) (hown : s.vm.findClass own = some m.cls) (hK : va_K D cl tys s) (hP : va_P D cl (va_pl LL f) H) (hD : va_D A (va_pl LL f)) (hS0 : va_S A H0 H locs) {fs : List Value} (ha : a ∈ LL) (hf : f a = .inr (ci, fs)) (hc : cl[ci]? = some (C, T, N)) (k : Nat) (hk : k < N) (hlink : (Cond.fieldLink own index (T k).1 (T k).2.1 (T k).2.2.1).before args s = true) (hfin : (T k).2.2.2 = false) {v : Value} (hn : narrow (ty0 k) v = v) (hfit : fits (ty0 k) v = true) (hl : k < fs.length)
    (hdg : decode cc pc = .ok (.putfield index, 3)) (kk : ∀ (H1 : Heap) (locs1 : List Loc), va_P D cl (va_pl LL (va_up f a (.inr (ci, fs.set k v)))) H1 → va_D A (va_pl LL (va_up f a (.inr (ci, fs.set k v)))) → va_S A H0 H1 locs1 → W p l e R s m args below meth c H1 locs1 cells slots Q (F0 m (pc + 3) ls rest)) : W p l e R s m args below meth c H locs cells slots Q (F0 m pc ls (v :: .ref a :: rest)) := by
  obtain ⟨j, hj⟩ := pw_at ha hf
  refine va_put hexec hb hts hin ty0 hty hnm hown hK hP hD hS0 j hj hc k hk hlink (fun _ h => h) hfin (hty k hk) hn hfit hl hdg (fun H1 locs1 h1 h2 h3 => ?_)
  rw [pw_set hD ha hf hj] at h1 h2
  exact kk H1 locs1 h1 h2 h3
theorem pw_putF (hexec : p.tables.exec = Jvm.exec) (hb : c.code = cc) {own C : String} {T : u_T} {N ci index : Nat} {Ts : List Cond} (hts : ∀ w ∈ Ts, w.before args s = true) (hin : ∀ w ∈ u_ws C T N, w ∈ Ts) (ty0 : Nat → FieldType) (hty : ∀ k, k < N → parseFieldDescriptor (T k).2.2.1 = some (ty0 k)) (hnm : ∀ a, a < N → ∀ b, b < N → a ≠ b → (T a).2.1 ≠ (T b).2.1) (hown : s.vm.findClass own = some m.cls) (hK : va_K D cl tys s) (hP : va_P D cl (va_pl LL f) H) (hD : va_D A (va_pl LL f)) (hS0 : va_S A H0 H locs) {fs : List Value} (ha : a ∈ LL) (hf : f a = .inr (ci, fs)) (hc : cl[ci]? = some (C, T, N)) (k : Nat) (hk : k < N) (hlink : (Cond.fieldLink own index (T k).1 (T k).2.1 (T k).2.2.1).before args s = true) (hfin : (T k).2.2.2 = true) (hin2 : meth.name = "<init>") (hdecl : (T k).1 = own) {v : Value} (hn : narrow (ty0 k) v = v) (hfit : fits (ty0 k) v = true) (hl : k < fs.length)
    (hdg : decode cc pc = .ok (.putfield index, 3)) (kk : ∀ (H1 : Heap) (locs1 : List Loc), va_P D cl (va_pl LL (va_up f a (.inr (ci, fs.set k v)))) H1 → va_D A (va_pl LL (va_up f a (.inr (ci, fs.set k v)))) → va_S A H0 H1 locs1 → W p l e R s m args below meth c H1 locs1 cells slots Q (F0 m (pc + 3) ls rest)) : W p l e R s m args below meth c H locs cells slots Q (F0 m pc ls (v :: .ref a :: rest)) := by
  obtain ⟨j, hj⟩ := pw_at ha hf
  refine va_putF hexec hb hts hin ty0 hty hnm hown hK hP hD hS0 j hj hc k hk hlink (fun _ h => h) hfin hin2 hdecl (hty k hk) hn hfit hl hdg (fun H1 locs1 h1 h2 h3 => ?_)
  rw [pw_set hD ha hf hj] at h1 h2
  exact kk H1 locs1 h1 h2 h3
/-- a reference out of an array of references -/
theorem pw_aldq (hexec : p.tables.exec = Jvm.exec) (hb : c.code = cc) (hK : va_K D cl tys s) (hP : va_P D cl (va_pl LL f) H) (t0 : Nat) {cA : ClassId} {C : String} {n : Nat} {g : Nat → Option Nat} (ha : a ∈ LL) (hf : f a = .inl (cA, n, .inr (.inr (.inr (.inr g))))) (ht : tys[t0]? = some (cA, .object C)) {i : Int32} (hin : vp_in i n) (hdg : decode cc pc = .ok (.aaload, 1))
    (kk : W p l e R s m args below meth c H locs cells slots Q (F0 m (pc + 1) ls (va_rf (g i.toNatClampNeg) :: rest))) : W p l e R s m args below meth c H locs cells slots Q (F0 m pc ls (.int i :: .ref a :: rest)) := by
  obtain ⟨j, hj⟩ := pw_at ha hf
  exact va_aldq hexec hb hK hP j t0 hj ht hin hdg kk
theorem pw_astq (hexec : p.tables.exec = Jvm.exec) (hb : c.code = cc) (hK : va_K D cl tys s) (hP : va_P D cl (va_pl LL f) H) (hD : va_D A (va_pl LL f)) (hS : va_S A H0 H locs) (t0 ci : Nat) {cA : ClassId} {r : vw_C} {n v : Nat} {vs : List Value} {g : Nat → Option Nat} (ha : a ∈ LL) (hf : f a = .inl (cA, n, .inr (.inr (.inr (.inr g))))) (ht : tys[t0]? = some (cA, .object r.1)) (hva : v ∈ LL) (hv : f v = .inr (ci, vs)) (hc : cl[ci]? = some r) {i : Int32} (hin : vp_in i n) (hdg : decode cc pc = .ok (.aastore, 1))
    (kk : ∀ (H1 : Heap) (locs1 : List Loc), va_P D cl (va_pl LL (va_up f a (.inl (cA, n, .inr (.inr (.inr (.inr (va_up g i.toNatClampNeg (some v))))))))) H1 → va_D A (va_pl LL (va_up f a (.inl (cA, n, .inr (.inr (.inr (.inr (va_up g i.toNatClampNeg (some v))))))))) → va_S A H0 H1 locs1 → W p l e R s m args below meth c H1 locs1 cells slots Q (F0 m (pc + 1) ls rest)) : W p l e R s m args below meth c H locs cells slots Q (F0 m pc ls (.ref v :: .int i :: .ref a :: rest)) := by
  obtain ⟨j, hj⟩ := pw_at ha hf
  obtain ⟨k, hk⟩ := pw_at hva hv
  refine va_astq hexec hb hK hP hD hS j t0 k ci hj ht hk hc hin hdg (fun H1 locs1 h1 h2 h3 => ?_)
  rw [pw_set hD ha hf hj] at h1 h2
  exact kk H1 locs1 h1 h2 h3
theorem pw_alen (hexec : p.tables.exec = Jvm.exec) (hb : c.code = cc) (hK : va_K D cl tys s) (hP : va_P D cl (va_pl LL f) H) (t0 : Nat) {cA : ClassId} {x : vp_A} (ha : a ∈ LL) (hf : f a = .inl (cA, x)) {ty : FieldType} (ht : tys[t0]? = some (cA, ty)) {v : Int32} (hv : Int32.ofNat x.1 = v) (hdg : decode cc pc = .ok (.arraylength, 1))
    (kk : W p l e R s m args below meth c H locs cells slots Q (F0 m (pc + 1) ls (.int v :: rest))) : W p l e R s m args below meth c H locs cells slots Q (F0 m pc ls (.ref a :: rest)) := by
  obtain ⟨j, hj⟩ := pw_at ha hf
  exact va_alen hexec hb hK hP j t0 hj ht hv hdg kk
theorem pw_iald (hexec : p.tables.exec = Jvm.exec) (hb : c.code = cc) (hK : va_K D cl tys s) (hP : va_P D cl (va_pl LL f) H) (t0 : Nat) {cA : ClassId} {n : Nat} {g : Nat → Int32} (ha : a ∈ LL) (hf : f a = .inl (cA, n, .inl g)) (ht : tys[t0]? = some (cA, .int)) {i : Int32} (hin : vp_in i n) (hdg : decode cc pc = .ok (.iaload, 1))
    (kk : W p l e R s m args below meth c H locs cells slots Q (F0 m (pc + 1) ls (.int (g i.toNatClampNeg) :: rest))) : W p l e R s m args below meth c H locs cells slots Q (F0 m pc ls (.int i :: .ref a :: rest)) := by
  obtain ⟨j, hj⟩ := pw_at ha hf
  exact va_iald hexec hb hK hP j t0 hj ht hin hdg kk
theorem pw_zald (hexec : p.tables.exec = Jvm.exec) (hb : c.code = cc) (hK : va_K D cl tys s) (hP : va_P D cl (va_pl LL f) H) (t0 : Nat) {cA : ClassId} {n : Nat} {g : Nat → Int32} (ha : a ∈ LL) (hf : f a = .inl (cA, n, .inl g)) (ht : tys[t0]? = some (cA, .boolean)) {i : Int32} (hin : vp_in i n) (hdg : decode cc pc = .ok (.baload, 1))
    (kk : W p l e R s m args below meth c H locs cells slots Q (F0 m (pc + 1) ls (.int (g i.toNatClampNeg) :: rest))) : W p l e R s m args below meth c H locs cells slots Q (F0 m pc ls (.int i :: .ref a :: rest)) := by
  obtain ⟨j, hj⟩ := pw_at ha hf
  exact va_zald hexec hb hK hP j t0 hj ht hin hdg kk
theorem pw_lald (hexec : p.tables.exec = Jvm.exec) (hb : c.code = cc) (hK : va_K D cl tys s) (hP : va_P D cl (va_pl LL f) H) (t0 : Nat) {cA : ClassId} {n : Nat} {g : Nat → Int64} (ha : a ∈ LL) (hf : f a = .inl (cA, n, .inr (.inl g))) (ht : tys[t0]? = some (cA, .long)) {i : Int32} (hin : vp_in i n) (hdg : decode cc pc = .ok (.laload, 1))
    (kk : W p l e R s m args below meth c H locs cells slots Q (F0 m (pc + 1) ls (.long (g i.toNatClampNeg) :: rest))) : W p l e R s m args below meth c H locs cells slots Q (F0 m pc ls (.int i :: .ref a :: rest)) := by
  obtain ⟨j, hj⟩ := pw_at ha hf
  exact va_lald hexec hb hK hP j t0 hj ht hin hdg kk
theorem pw_iast (hexec : p.tables.exec = Jvm.exec) (hb : c.code = cc) (hK : va_K D cl tys s) (hP : va_P D cl (va_pl LL f) H) (hD : va_D A (va_pl LL f)) (hS : va_S A H0 H locs) (t0 : Nat) {cA : ClassId} {n : Nat} {g : Nat → Int32} (ha : a ∈ LL) (hf : f a = .inl (cA, n, .inl g)) (ht : tys[t0]? = some (cA, .int)) {i x : Int32} (hin : vp_in i n) (hdg : decode cc pc = .ok (.iastore, 1))
    (kk : ∀ (H1 : Heap) (locs1 : List Loc), va_P D cl (va_pl LL (va_up f a (.inl (cA, n, .inl (upd g i.toNatClampNeg x))))) H1 → va_D A (va_pl LL (va_up f a (.inl (cA, n, .inl (upd g i.toNatClampNeg x))))) → va_S A H0 H1 locs1 → W p l e R s m args below meth c H1 locs1 cells slots Q (F0 m (pc + 1) ls rest)) : W p l e R s m args below meth c H locs cells slots Q (F0 m pc ls (.int x :: .int i :: .ref a :: rest)) := by
  obtain ⟨j, hj⟩ := pw_at ha hf
  refine va_iast hexec hb hK hP hD hS j t0 hj ht hin hdg (fun H1 locs1 h1 h2 h3 => ?_)
  rw [pw_set hD ha hf hj] at h1 h2
  exact kk H1 locs1 h1 h2 h3
theorem pw_zast (hexec : p.tables.exec = Jvm.exec) (hb : c.code = cc) (hK : va_K D cl tys s) (hP : va_P D cl (va_pl LL f) H) (hD : va_D A (va_pl LL f)) (hS : va_S A H0 H locs) (t0 : Nat) {cA : ClassId} {n : Nat} {g : Nat → Int32} (ha : a ∈ LL) (hf : f a = .inl (cA, n, .inl g)) (ht : tys[t0]? = some (cA, .boolean)) {i x : Int32} (hin : vp_in i n) (hdg : decode cc pc = .ok (.bastore, 1))
    (kk : ∀ (H1 : Heap) (locs1 : List Loc), va_P D cl (va_pl LL (va_up f a (.inl (cA, n, .inl (upd g i.toNatClampNeg (vp_nar .boolean x)))))) H1 → va_D A (va_pl LL (va_up f a (.inl (cA, n, .inl (upd g i.toNatClampNeg (vp_nar .boolean x)))))) → va_S A H0 H1 locs1 → W p l e R s m args below meth c H1 locs1 cells slots Q (F0 m (pc + 1) ls rest)) : W p l e R s m args below meth c H locs cells slots Q (F0 m pc ls (.int x :: .int i :: .ref a :: rest)) := by
  obtain ⟨j, hj⟩ := pw_at ha hf
  refine va_zast hexec hb hK hP hD hS j t0 hj ht hin hdg (fun H1 locs1 h1 h2 h3 => ?_)
  rw [pw_set hD ha hf hj] at h1 h2
  exact kk H1 locs1 h1 h2 h3
theorem pw_last (hexec : p.tables.exec = Jvm.exec) (hb : c.code = cc) (hK : va_K D cl tys s) (hP : va_P D cl (va_pl LL f) H) (hD : va_D A (va_pl LL f)) (hS : va_S A H0 H locs) (t0 : Nat) {cA : ClassId} {n : Nat} {g : Nat → Int64} (ha : a ∈ LL) (hf : f a = .inl (cA, n, .inr (.inl g))) (ht : tys[t0]? = some (cA, .long)) {i : Int32} {x : Int64} (hin : vp_in i n) (hdg : decode cc pc = .ok (.lastore, 1))
    (kk : ∀ (H1 : Heap) (locs1 : List Loc), va_P D cl (va_pl LL (va_up f a (.inl (cA, n, .inr (.inl (vp_updL g i.toNatClampNeg x)))))) H1 → va_D A (va_pl LL (va_up f a (.inl (cA, n, .inr (.inl (vp_updL g i.toNatClampNeg x)))))) → va_S A H0 H1 locs1 → W p l e R s m args below meth c H1 locs1 cells slots Q (F0 m (pc + 1) ls rest)) : W p l e R s m args below meth c H locs cells slots Q (F0 m pc ls (.long x :: .int i :: .ref a :: rest)) := by
  obtain ⟨j, hj⟩ := pw_at ha hf
  refine va_last hexec hb hK hP hD hS j t0 hj ht hin hdg (fun H1 locs1 h1 h2 h3 => ?_)
  rw [pw_set hD ha hf hj] at h1 h2
  exact kk H1 locs1 h1 h2 h3
/-- a new cell at the end of a pool -/
theorem pw_push {x : va_E} {q : Nat} (hD : va_D A (va_pl LL f ++ [(q, x)])) : q ∉ LL := va_pl_fresh2 (X := []) hD
theorem pw_new (hexec : p.tables.exec = Jvm.exec) (hb : c.code = cc) {own C : String} {T : u_T} {N ci index : Nat} {Ts : List Cond} (hts : ∀ w ∈ Ts, w.before args s = true) (hin : ∀ w ∈ u_ws C T N, w ∈ Ts) (ty : Nat → FieldType) (hty : ∀ k, k < N → parseFieldDescriptor (T k).2.2.1 = some (ty k)) (hown : s.vm.findClass own = some m.cls) (hcl : (Cond.classLink own index C).before args s = true) (hinst : (Cond.instantiable C N).before args s = true) (hini : (Cond.initialized C).before args s = true)
    (hK : va_K D cl tys s) (hP : va_P D cl (va_pl LL f) H) (hD : va_D A (va_pl LL f)) (hS : va_S A H0 H locs) (hA : ∀ q, H0.size ≤ q → A q) (hc : cl[ci]? = some (C, T, N)) {fs : List Value} (hfs : ∀ j, j < N → defaultValue (ty j) = vp_V fs j) (hcells : cells + 1 ≤ R.cells) (hslots : slots + N ≤ R.slots) (hdg : decode cc pc = .ok (.new index, 3))
    (kk : ∀ (q : Nat) (H1 : Heap), q ∉ LL → va_P D cl (va_pl (LL ++ [q]) (va_up f q (.inr (ci, fs)))) H1 → va_D A (va_pl (LL ++ [q]) (va_up f q (.inr (ci, fs)))) → va_S A H0 H1 locs →
      W p l e R s m args below meth c H1 locs (cells + 1) (slots + N) Q (F0 m (pc + 3) ls (.ref q :: rest))) : W p l e R s m args below meth c H locs cells slots Q (F0 m pc ls rest) := by
  refine va_new hexec hb hts hin ty hty hown hcl hinst hini hK hP hD hS hA hc hfs hcells hslots hdg (fun q H1 h1 h2 h3 => ?_)
  have hq := pw_push h2
  rw [va_pl_push hq] at h1 h2
  exact kk q H1 hq h1 h2 h3
theorem pw_newq (hexec : p.tables.exec = Jvm.exec) (hb : c.code = cc) {own C : String} {index : Nat} (hown : s.vm.findClass own = some m.cls) (hclink : (Cond.classLink own index C).before args s = true) (hover : va_AO C s) (hK : va_K D cl tys s) (hP : va_P D cl (va_pl LL f) H) (hD : va_D A (va_pl LL f)) (hS : va_S A H0 H locs) (hA : ∀ q, H0.size ≤ q → A q)
    {n : Int32} {N' : Nat} (hn : ¬ n < 0) (hN : n.toNatClampNeg = N') (hbytes : N' * 4 ≤ 536870912) (hcells : cells + 1 ≤ R.cells) (hslots : slots + N' ≤ R.slots) (hdg : decode cc pc = .ok (.anewarray index, 3))
    (kk : ∀ (q : Nat) (cA : ClassId) (H1 : Heap), q ∉ LL → va_K D cl (tys ++ [(cA, .object C)]) s → va_P D cl (va_pl (LL ++ [q]) (va_up f q (.inl (cA, N', .inr (.inr (.inr (.inr (fun _ => none)))))))) H1 → va_D A (va_pl (LL ++ [q]) (va_up f q (.inl (cA, N', .inr (.inr (.inr (.inr (fun _ => none)))))))) → va_S A H0 H1 locs →
      W p l e R s m args below meth c H1 locs (cells + 1) (slots + N') Q (F0 m (pc + 3) ls (.ref q :: rest))) : W p l e R s m args below meth c H locs cells slots Q (F0 m pc ls (.int n :: rest)) := by
  refine va_newq hexec hb hown hclink hover hK hP hD hS hA hn hN hbytes hcells hslots hdg (fun q cA H1 h0 h1 h2 h3 => ?_)
  have hq := pw_push h2
  rw [va_pl_push hq] at h1 h2
  exact kk q cA H1 hq h0 h1 h2 h3
theorem pw_newa (hexec : p.tables.exec = Jvm.exec) (hb : c.code = cc) {atype : ArrayType} (harr : (Cond.arrayClass (newarray.typeOf atype)).before args s = true) {ty : FieldType} (hty : newarray.typeOf atype = ty) (hK : va_K D cl tys s) (hP : va_P D cl (va_pl LL f) H) (hD : va_D A (va_pl LL f)) (hS : va_S A H0 H locs) (hA : ∀ q, H0.size ≤ q → A q)
    {n : Int32} {N' : Nat} {a0 : vp_A} (ha : ∀ cA : ClassId, vp_cell cA a0 = arrV cA N' (fun _ => defaultValue ty)) (hn : ¬ n < 0) (hN : n.toNatClampNeg = N') (hbytes : N' * componentBytes ty ≤ 536870912) (hcells : cells + 1 ≤ R.cells) (hslots : slots + N' ≤ R.slots) (hdg : decode cc pc = .ok (.newarray atype, 2))
    (kk : ∀ (q : Nat) (cA : ClassId) (H1 : Heap), q ∉ LL → va_K D cl (tys ++ [(cA, ty)]) s → va_P D cl (va_pl (LL ++ [q]) (va_up f q (.inl (cA, a0)))) H1 → va_D A (va_pl (LL ++ [q]) (va_up f q (.inl (cA, a0)))) → va_S A H0 H1 locs →
      W p l e R s m args below meth c H1 locs (cells + 1) (slots + N') Q (F0 m (pc + 2) ls (.ref q :: rest))) : W p l e R s m args below meth c H locs cells slots Q (F0 m pc ls (.int n :: rest)) := by
  refine va_newa hexec hb harr hty hK hP hD hS hA ha hn hN hbytes hcells hslots hdg (fun q cA H1 h0 h1 h2 h3 => ?_)
  have hq := pw_push h2
  rw [va_pl_push hq] at h1 h2
  exact kk q cA H1 hq h0 h1 h2 h3
/-- what a method may write: its pool's cells, and those from sz on -/
theorem pw_A {LL : List Nat} {f : Nat → va_E} {sz q : Nat} : va_A (va_pl LL f) sz q ↔ (q ∈ LL ∨ sz ≤ q) := by
  constructor
  · rintro (⟨k, x, h⟩ | h)
    · have := List.mem_of_getElem? h
      obtain ⟨b, hb, e⟩ := List.mem_map.mp this
      cases e
      exact Or.inl hb
    · exact Or.inr h
  · rintro (h | h)
    · obtain ⟨k, hk⟩ := pw_at (f := f) h rfl
      exact Or.inl ⟨k, _, hk⟩
    · exact Or.inr h
theorem pw_Aeq {LL : List Nat} {f g : Nat → va_E} {sz : Nat} : va_A (va_pl LL f) sz = va_A (va_pl LL g) sz := by
  funext q
  exact propext (pw_A.trans pw_A.symm)
theorem pw_recv {s : State} {ci : Nat} {r : vw_C} {fs : List Value} (hK : va_K D cl tys s) (hP : va_P D cl (va_pl LL f) H) (ha : a ∈ LL) (hf : f a = .inr (ci, fs)) (hc : cl[ci]? = some r) : ∃ cell : Cell, H[a]? = some cell ∧ cell.vm.isStatics = false ∧ s.vm.findClass r.1 = some cell.cls := by
  obtain ⟨j, hj⟩ := pw_at ha hf
  exact va_recv hK hP hc hj
end PW
end
section
/-! WHAT A STATE OF WorkerRows IS. A tool: (edition, quirk, bars). A worker: (tool, edition, finished, trusted, memory, freeSince, endedBy, request). A request: (tool, input, size, state, begun, unwanted, redone, result, worker, place). -/
abbrev cs_T : Type := Int64 × Int32 × Int32
abbrev cs_W : Type := Nat × Int64 × Int32 × Int32 × Int32 × Int32 × Int32 × Option Nat
abbrev cs_R : Type := Nat × Int64 × Int32 × Int32 × Int32 × Bool × Bool × Int64 × Option Nat × Int32
abbrev tEd (t : cs_T) : Int64 := t.1
abbrev tQu (t : cs_T) : Int32 := t.2.1
abbrev tBa (t : cs_T) : Int32 := t.2.2
abbrev wTo (w : cs_W) : Nat := w.1
abbrev wEd (w : cs_W) : Int64 := w.2.1
abbrev wFi (w : cs_W) : Int32 := w.2.2.1
abbrev wTr (w : cs_W) : Int32 := w.2.2.2.1
abbrev wMe (w : cs_W) : Int32 := w.2.2.2.2.1
abbrev wFr (w : cs_W) : Int32 := w.2.2.2.2.2.1
abbrev wEn (w : cs_W) : Int32 := w.2.2.2.2.2.2.1
abbrev wRq (w : cs_W) : Option Nat := w.2.2.2.2.2.2.2
abbrev rTo (r : cs_R) : Nat := r.1
abbrev rIn (r : cs_R) : Int64 := r.2.1
abbrev rSz (r : cs_R) : Int32 := r.2.2.1
abbrev rSt (r : cs_R) : Int32 := r.2.2.2.1
abbrev rBe (r : cs_R) : Int32 := r.2.2.2.2.1
abbrev rUn (r : cs_R) : Bool := r.2.2.2.2.2.1
abbrev rRe (r : cs_R) : Bool := r.2.2.2.2.2.2.1
abbrev rRs (r : cs_R) : Int64 := r.2.2.2.2.2.2.2.1
abbrev rWk (r : cs_R) : Option Nat := r.2.2.2.2.2.2.2.2.1
abbrev rPl (r : cs_R) : Int32 := r.2.2.2.2.2.2.2.2.2
-- a field gets a value
abbrev tEd_ (t : cs_T) (x : Int64) : cs_T := (x, tQu t, tBa t)
abbrev tQu_ (t : cs_T) (x : Int32) : cs_T := (tEd t, x, tBa t)
abbrev tBa_ (t : cs_T) (x : Int32) : cs_T := (tEd t, tQu t, x)
abbrev wFi_ (w : cs_W) (x : Int32) : cs_W := (wTo w, wEd w, x, wTr w, wMe w, wFr w, wEn w, wRq w)
abbrev wTr_ (w : cs_W) (x : Int32) : cs_W := (wTo w, wEd w, wFi w, x, wMe w, wFr w, wEn w, wRq w)
abbrev wMe_ (w : cs_W) (x : Int32) : cs_W := (wTo w, wEd w, wFi w, wTr w, x, wFr w, wEn w, wRq w)
abbrev wFr_ (w : cs_W) (x : Int32) : cs_W := (wTo w, wEd w, wFi w, wTr w, wMe w, x, wEn w, wRq w)
abbrev wEn_ (w : cs_W) (x : Int32) : cs_W := (wTo w, wEd w, wFi w, wTr w, wMe w, wFr w, x, wRq w)
abbrev wRq_ (w : cs_W) (x : Option Nat) : cs_W := (wTo w, wEd w, wFi w, wTr w, wMe w, wFr w, wEn w, x)
abbrev rSt_ (r : cs_R) (x : Int32) : cs_R := (rTo r, rIn r, rSz r, x, rBe r, rUn r, rRe r, rRs r, rWk r, rPl r)
abbrev rBe_ (r : cs_R) (x : Int32) : cs_R := (rTo r, rIn r, rSz r, rSt r, x, rUn r, rRe r, rRs r, rWk r, rPl r)
abbrev rUn_ (r : cs_R) (x : Bool) : cs_R := (rTo r, rIn r, rSz r, rSt r, rBe r, x, rRe r, rRs r, rWk r, rPl r)
abbrev rRe_ (r : cs_R) (x : Bool) : cs_R := (rTo r, rIn r, rSz r, rSt r, rBe r, rUn r, x, rRs r, rWk r, rPl r)
abbrev rRs_ (r : cs_R) (x : Int64) : cs_R := (rTo r, rIn r, rSz r, rSt r, rBe r, rUn r, rRe r, x, rWk r, rPl r)
abbrev rWk_ (r : cs_R) (x : Option Nat) : cs_R := (rTo r, rIn r, rSz r, rSt r, rBe r, rUn r, rRe r, rRs r, x, rPl r)
abbrev rPl_ (r : cs_R) (x : Int32) : cs_R := (rTo r, rIn r, rSz r, rSt r, rBe r, rUn r, rRe r, rRs r, rWk r, x)
/-- the whole: (most, bound, idle), the clock, how many of each, and each -/
abbrev cs_S : Type := (Int32 × Int32 × Int32) × Int32 × (Nat × Nat × Nat) × (Nat → cs_T) × (Nat → cs_W) × (Nat → cs_R)
abbrev cMo (x : cs_S) : Int32 := x.1.1
abbrev cBo (x : cs_S) : Int32 := x.1.2.1
abbrev cId (x : cs_S) : Int32 := x.1.2.2
abbrev cCl (x : cs_S) : Int32 := x.2.1
abbrev nT (x : cs_S) : Nat := x.2.2.1.1
abbrev nW (x : cs_S) : Nat := x.2.2.1.2.1
abbrev nR (x : cs_S) : Nat := x.2.2.1.2.2
abbrev gT (x : cs_S) : Nat → cs_T := x.2.2.2.1
abbrev gW (x : cs_S) : Nat → cs_W := x.2.2.2.2.1
abbrev gR (x : cs_S) : Nat → cs_R := x.2.2.2.2.2
abbrev sCl (x : cs_S) (k : Int32) : cs_S := (x.1, k, x.2.2.1, gT x, gW x, gR x)
abbrev sT (x : cs_S) (i : Nat) (t : cs_T) : cs_S := (x.1, x.2.1, x.2.2.1, va_up (gT x) i t, gW x, gR x)
abbrev sW (x : cs_S) (i : Nat) (w : cs_W) : cs_S := (x.1, x.2.1, x.2.2.1, gT x, va_up (gW x) i w, gR x)
abbrev sR (x : cs_S) (i : Nat) (r : cs_R) : cs_S := (x.1, x.2.1, x.2.2.1, gT x, gW x, va_up (gR x) i r)
abbrev aT (x : cs_S) (t : cs_T) : cs_S := (x.1, x.2.1, (nT x + 1, nW x, nR x), va_up (gT x) (nT x) t, gW x, gR x)
abbrev aW (x : cs_S) (w : cs_W) : cs_S := (x.1, x.2.1, (nT x, nW x + 1, nR x), gT x, va_up (gW x) (nW x) w, gR x)
abbrev aR (x : cs_S) (r : cs_R) : cs_S := (x.1, x.2.1, (nT x, nW x, nR x + 1), gT x, gW x, va_up (gR x) (nR x) r)
def bI (b : Bool) : Int32 := match b with
  | true => 1
  | false => 0
-- an object's fields
def eT (i : Nat) (t : cs_T) : List Value := [.int (nI i), .long (tEd t), .int (tQu t), .int (tBa t)]
def eW (ta ra : Nat → Nat) (i : Nat) (w : cs_W) : List Value := [.int (nI i), .ref (ta (wTo w)), .long (wEd w), .int (wFi w), .int (wTr w), .int (wMe w), .int (wFr w), .int (wEn w), va_rf ((wRq w).map ra)]
def eR (ta wa : Nat → Nat) (i : Nat) (r : cs_R) : List Value := [.int (nI i), .ref (ta (rTo r)), .long (rIn r), .int (rSz r), .int (rSt r), .int (rBe r), .int (bI (rUn r)), .int (bI (rRe r)), .long (rRs r), va_rf ((rWk r).map wa), .int (rPl r)]
/-- where it lies: the object, its three rows with their array classes; the tools, workers, requests -/
abbrev ck_F : Type := (Nat × Nat × Nat × Nat) × (ClassId × ClassId × ClassId)
abbrev ck_A : Type := (Nat → Nat) × (Nat → Nat) × (Nat → Nat)
def eO (k : ck_F) (x : cs_S) : List Value := [.int (cMo x), .int (cBo x), .int (cId x), .int (cCl x), .ref k.1.2.1, .ref k.1.2.2.1, .ref k.1.2.2.2, .int (nI (nT x)), .int (nI (nW x)), .int (nI (nR x))]
def eA (n : Nat) (ad : Nat → Nat) : Nat → Option Nat := fun i => if i < n then some (ad i) else none
/-- what is referred to is there -/
def cs_ok (x : cs_S) : Prop := (nT x ≤ 6 ∧ nW x ≤ 60 ∧ nR x ≤ 100) ∧ (∀ i, i < nW x → wTo (gW x i) < nT x ∧ ∀ j, wRq (gW x i) = some j → j < nR x) ∧ (∀ j, j < nR x → rTo (gR x j) < nT x ∧ ∀ i, rWk (gR x j) = some i → i < nW x)

abbrev kO (k : ck_F) : Nat := k.1.1
abbrev kTs (k : ck_F) : Nat := k.1.2.1
abbrev kWs (k : ck_F) : Nat := k.1.2.2.1
abbrev kRs (k : ck_F) : Nat := k.1.2.2.2
abbrev aTo (d : ck_A) : Nat → Nat := d.1
abbrev aWo (d : ck_A) : Nat → Nat := d.2.1
abbrev aRq (d : ck_A) : Nat → Nat := d.2.2
abbrev rowE (cA : ClassId) (n : Nat) (g : Nat → Option Nat) : va_E := .inl (cA, n, .inr (.inr (.inr (.inr g))))
def ck_tys (k : ck_F) : List (ClassId × FieldType) := [(k.2.1, .object RX1), (k.2.2.1, .object RX2), (k.2.2.2, .object RX0)]
/-- the pool (LL, f) holds the state x -/
def cI (k : ck_F) (d : ck_A) (x : cs_S) (LL : List Nat) (f : Nat → va_E) : Prop :=
  cs_ok x ∧ (kO k ∈ LL ∧ f (kO k) = .inr (3, eO k x)) ∧ (kTs k ∈ LL ∧ f (kTs k) = rowE k.2.1 6 (eA (nT x) (aTo d))) ∧ (kWs k ∈ LL ∧ f (kWs k) = rowE k.2.2.1 60 (eA (nW x) (aWo d))) ∧ (kRs k ∈ LL ∧ f (kRs k) = rowE k.2.2.2 100 (eA (nR x) (aRq d))) ∧ (∀ i, i < nT x → aTo d i ∈ LL ∧ f (aTo d i) = .inr (1, eT i (gT x i))) ∧ (∀ i, i < nW x → aWo d i ∈ LL ∧ f (aWo d i) = .inr (2, eW (aTo d) (aRq d) i (gW x i))) ∧ (∀ i, i < nR x → aRq d i ∈ LL ∧ f (aRq d i) = .inr (0, eR (aTo d) (aWo d) i (gR x i)))
/-- the heap H holds the state x, and since H0 nothing outside A has changed -/
def cH (D : va_G) (k : ck_F) (d : ck_A) (x : cs_S) (A : Nat → Prop) (H0 H : Heap) (locs : List Loc) : Prop := ∃ (LL : List Nat) (f : Nat → va_E), cI k d x LL f ∧ va_P D vwCl (va_pl LL f) H ∧ va_D A (va_pl LL f) ∧ va_S A H0 H locs
theorem cs_ok.setT {x : cs_S} (h : cs_ok x) (i : Nat) (t : cs_T) : cs_ok (sT x i t) := h
theorem cs_ok.setCl {x : cs_S} (h : cs_ok x) (c : Int32) : cs_ok (sCl x c) := h
theorem gT_self (x : cs_S) (i : Nat) (t : cs_T) : gT (sT x i t) i = t := va_up_self _ _ _
theorem gW_self (x : cs_S) (i : Nat) (w : cs_W) : gW (sW x i w) i = w := va_up_self _ _ _
theorem gR_self (x : cs_S) (i : Nat) (r : cs_R) : gR (sR x i r) i = r := va_up_self _ _ _
theorem gT_ne (x : cs_S) {i j : Nat} (t : cs_T) (h : j ≠ i) : gT (sT x i t) j = gT x j := va_up_ne _ _ h
theorem gW_ne (x : cs_S) {i j : Nat} (w : cs_W) (h : j ≠ i) : gW (sW x i w) j = gW x j := va_up_ne _ _ h
theorem gR_ne (x : cs_S) {i j : Nat} (r : cs_R) (h : j ≠ i) : gR (sR x i r) j = gR x j := va_up_ne _ _ h
theorem cs_ok.setW {x : cs_S} (h : cs_ok x) (i : Nat) (w : cs_W) (hw : wTo w < nT x ∧ ∀ j, wRq w = some j → j < nR x) : cs_ok (sW x i w) := by
  refine ⟨h.1, fun a ha => ?_, h.2.2⟩
  by_cases e : a = i
  · subst e
    rw [gW_self]
    exact hw
  · rw [gW_ne _ _ e]
    exact h.2.1 a ha
theorem cs_ok.setR {x : cs_S} (h : cs_ok x) (i : Nat) (r : cs_R) (hr : rTo r < nT x ∧ ∀ j, rWk r = some j → j < nW x) : cs_ok (sR x i r) := by
  refine ⟨h.1, h.2.1, fun a ha => ?_⟩
  by_cases e : a = i
  · subst e
    rw [gR_self]
    exact hr
  · rw [gR_ne _ _ e]
    exact h.2.2 a ha
theorem nI_inj {i j n : Nat} (hi : i < n) (hj : j < n) (hn : n ≤ 100) (h : Value.int (nI i) = Value.int (nI j)) : i = j := by
  have h1 : nI i = nI j := Value.int.inj h
  exact (nI_eq (by omega) (by omega)).mp h1
section CI
variable {k : ck_F} {d : ck_A} {x : cs_S} {LL : List Nat} {f : Nat → va_E}
theorem cI.ok (h : cI k d x LL f) : cs_ok x := h.1
theorem cI.injT (h : cI k d x LL f) {i j : Nat} (hi : i < nT x) (hj : j < nT x) (e : aTo d i = aTo d j) : i = j := by
  have h1 := (h.2.2.2.2.2.1 i hi).2
  have h2 := (h.2.2.2.2.2.1 j hj).2
  rw [e, h2] at h1
  have h3 : eT j (gT x j) = eT i (gT x i) := congrArg Prod.snd (Sum.inr.inj h1)
  have h4 : Value.int (nI j) = Value.int (nI i) := (List.cons.inj h3).1
  exact (nI_inj hj hi (Nat.le_trans h.1.1.1 (by decide)) h4).symm
theorem cI.injW (h : cI k d x LL f) {i j : Nat} (hi : i < nW x) (hj : j < nW x) (e : aWo d i = aWo d j) : i = j := by
  have h1 := (h.2.2.2.2.2.2.1 i hi).2
  have h2 := (h.2.2.2.2.2.2.1 j hj).2
  rw [e, h2] at h1
  have h3 := congrArg Prod.snd (Sum.inr.inj h1)
  have h4 : Value.int (nI j) = Value.int (nI i) := (List.cons.inj h3).1
  exact (nI_inj hj hi (Nat.le_trans h.1.1.2.1 (by decide)) h4).symm
theorem cI.injR (h : cI k d x LL f) {i j : Nat} (hi : i < nR x) (hj : j < nR x) (e : aRq d i = aRq d j) : i = j := by
  have h1 := (h.2.2.2.2.2.2.2 i hi).2
  have h2 := (h.2.2.2.2.2.2.2 j hj).2
  rw [e, h2] at h1
  have h3 := congrArg Prod.snd (Sum.inr.inj h1)
  have h4 : Value.int (nI j) = Value.int (nI i) := (List.cons.inj h3).1
  exact (nI_inj hj hi (Nat.le_trans h.1.1.2.2 (by decide)) h4).symm
/-- two addresses with different cells are different -/
theorem up_ne {f : Nat → va_E} {a b : Nat} {e v : va_E} (hv : f b = v) (h : f a ≠ v) : va_up f a e b = v := by
  rw [va_up_ne _ _ (fun q => h (by rw [← q, hv]))]
  exact hv
theorem cI.setT (h : cI k d x LL f) {i : Nat} (hi : i < nT x) (t : cs_T) : cI k d (sT x i t) LL (va_up f (aTo d i) (.inr (1, eT i t))) := by
  have ha := (h.2.2.2.2.2.1 i hi).2
  obtain ⟨h0, h1, h2, h3, h4, h5, h6, h7⟩ := id h
  refine ⟨h0.setT i t, ⟨h1.1, up_ne h1.2 (by rw [ha]; simp)⟩, ⟨h2.1, up_ne h2.2 (by rw [ha]; simp)⟩, ⟨h3.1, up_ne h3.2 (by rw [ha]; simp)⟩, ⟨h4.1, up_ne h4.2 (by rw [ha]; simp)⟩, fun j hj => ⟨(h5 j hj).1, ?_⟩, fun j hj => ⟨(h6 j hj).1, up_ne (h6 j hj).2 (by rw [ha]; simp)⟩, fun j hj => ⟨(h7 j hj).1, up_ne (h7 j hj).2 (by rw [ha]; simp)⟩⟩
  by_cases e : j = i
  · subst e
    rw [va_up_self, gT_self]
  · rw [va_up_ne _ _ (fun q => e (h.injT hj hi q)), gT_ne _ _ e]
    exact (h5 j hj).2
theorem cI.setW (h : cI k d x LL f) {i : Nat} (hi : i < nW x) (w : cs_W) (hw : wTo w < nT x ∧ ∀ j, wRq w = some j → j < nR x) : cI k d (sW x i w) LL (va_up f (aWo d i) (.inr (2, eW (aTo d) (aRq d) i w))) := by
  have ha := (h.2.2.2.2.2.2.1 i hi).2
  obtain ⟨h0, h1, h2, h3, h4, h5, h6, h7⟩ := id h
  refine ⟨h0.setW i w hw, ⟨h1.1, up_ne h1.2 (by rw [ha]; simp)⟩, ⟨h2.1, up_ne h2.2 (by rw [ha]; simp)⟩, ⟨h3.1, up_ne h3.2 (by rw [ha]; simp)⟩, ⟨h4.1, up_ne h4.2 (by rw [ha]; simp)⟩, fun j hj => ⟨(h5 j hj).1, up_ne (h5 j hj).2 (by rw [ha]; simp)⟩, fun j hj => ⟨(h6 j hj).1, ?_⟩, fun j hj => ⟨(h7 j hj).1, up_ne (h7 j hj).2 (by rw [ha]; simp)⟩⟩
  by_cases e : j = i
  · subst e
    rw [va_up_self, gW_self]
  · rw [va_up_ne _ _ (fun q => e (h.injW hj hi q)), gW_ne _ _ e]
    exact (h6 j hj).2
theorem cI.setR (h : cI k d x LL f) {i : Nat} (hi : i < nR x) (r : cs_R) (hr : rTo r < nT x ∧ ∀ j, rWk r = some j → j < nW x) : cI k d (sR x i r) LL (va_up f (aRq d i) (.inr (0, eR (aTo d) (aWo d) i r))) := by
  have ha := (h.2.2.2.2.2.2.2 i hi).2
  obtain ⟨h0, h1, h2, h3, h4, h5, h6, h7⟩ := id h
  refine ⟨h0.setR i r hr, ⟨h1.1, up_ne h1.2 (by rw [ha]; simp)⟩, ⟨h2.1, up_ne h2.2 (by rw [ha]; simp)⟩, ⟨h3.1, up_ne h3.2 (by rw [ha]; simp)⟩, ⟨h4.1, up_ne h4.2 (by rw [ha]; simp)⟩, fun j hj => ⟨(h5 j hj).1, up_ne (h5 j hj).2 (by rw [ha]; simp)⟩, fun j hj => ⟨(h6 j hj).1, up_ne (h6 j hj).2 (by rw [ha]; simp)⟩, fun j hj => ⟨(h7 j hj).1, ?_⟩⟩
  by_cases e : j = i
  · subst e
    rw [va_up_self, gR_self]
  · rw [va_up_ne _ _ (fun q => e (h.injR hj hi q)), gR_ne _ _ e]
    exact (h7 j hj).2
theorem cI.setCl (h : cI k d x LL f) (c : Int32) : cI k d (sCl x c) LL (va_up f (kO k) (.inr (3, eO k (sCl x c)))) := by
  have ha := h.2.1.2
  obtain ⟨h0, h1, h2, h3, h4, h5, h6, h7⟩ := id h
  exact ⟨h0.setCl c, ⟨h1.1, va_up_self _ _ _⟩, ⟨h2.1, up_ne h2.2 (by rw [ha]; simp)⟩, ⟨h3.1, up_ne h3.2 (by rw [ha]; simp)⟩, ⟨h4.1, up_ne h4.2 (by rw [ha]; simp)⟩, fun j hj => ⟨(h5 j hj).1, up_ne (h5 j hj).2 (by rw [ha]; simp)⟩, fun j hj => ⟨(h6 j hj).1, up_ne (h6 j hj).2 (by rw [ha]; simp)⟩, fun j hj => ⟨(h7 j hj).1, up_ne (h7 j hj).2 (by rw [ha]; simp)⟩⟩
end CI
end
section
/-! CONTRACTS OVER A POOL, for any class: own its name, tys the array classes it uses, I u LL f: the pool (LL, f) holds the state u -/
abbrev rmL (n mc ms : Nat) : Room := { frames := n, cells := mc, slots := ms, locals := 34 * n }
abbrev wz (y : MethodName) (b : ByteArray) (n : Nat) (r : Option FieldType) : List Cond := Cond.code y b n r :: wA
theorem gz {y : MethodName} {b : ByteArray} {n : Nat} {r : Option FieldType} (h : Cond.code y b n r ∈ wA) : GoodIn wA (wz y b n r) := fun w hw => by
  rcases List.mem_cons.mp hw with e | h1
  · subst e
    exact ⟨h, good_of_word (wA_good _ h)⟩
  · exact ⟨h1, good_of_word (wA_good _ h1)⟩
def gX (own : String) (tys : List (ClassId × FieldType)) (D : va_G) (p : Program) (s : State) (m : MethodId) (args : Array Value) (c : Code) (cc : ByteArray) (n : Nat) : Prop := p.tables.exec = Jvm.exec ∧ c.code = cc ∧ (∀ w ∈ wA, w.before args s = true) ∧ s.vm.findClass own = some m.cls ∧ va_K D vwCl tys s ∧ c.maxLocals = n
def gH {σ : Type} (D : va_G) (I : σ → List Nat → (Nat → va_E) → Prop) (u : σ) (A : Nat → Prop) (H0 H : Heap) (locs : List Loc) : Prop := ∃ (LL : List Nat) (f : Nat → va_E), I u LL f ∧ va_P D vwCl (va_pl LL f) H ∧ va_D A (va_pl LL f) ∧ va_S A H0 H locs
def gB {σ : Type} (D : va_G) (tys : List (ClassId × FieldType)) (I : σ → List Nat → (Nat → va_E) → Prop) (A : Nat → Prop) (u : σ) (t : State) : Prop := ∃ (LL : List Nat) (f : Nat → va_E), I u LL f ∧ va_P D vwCl (va_pl LL f) t.heap ∧ va_K D vwCl tys t ∧ va_D A (va_pl LL f)
def gP (D : va_G) (tys : List (ClassId × FieldType)) (LL : List Nat) (f : Nat → va_E) (sz : Nat) (av : List Value) : Array Value → State → Prop := va_Pc av (fun U => U.heap.size = sz ∧ va_P D vwCl (va_pl LL f) U.heap ∧ va_K D vwCl tys U ∧ va_D (fun _ => True) (va_pl LL f))
theorem gP_blind {D : va_G} {tys : List (ClassId × FieldType)} {LL : List Nat} {f : Nat → va_E} {sz : Nat} {av : List Value} : FrameBlind (gP D tys LL f sz av) := fun a U g mk q => by
  obtain ⟨q0, q1, qP, qK, qD⟩ := q
  exact ⟨q0, q1, qP, va_K.moved (u := U) (U := U.calling g mk a) (Vm.Alike.refl U.vm) qK, qD⟩
theorem gP_pre {D : va_G} {tys : List (ClassId × FieldType)} {LL : List Nat} {f : Nat → va_E} {av : List Value} {s U : State} {H : Heap} {A : Nat → Prop} (hK : va_K D vwCl tys s) (hP : va_P D vwCl (va_pl LL f) H) (hD : va_D A (va_pl LL f)) (hU : U.heap = H) (hW : s.WarmedH U.vm) : gP D tys LL f H.size av av.toArray U := ⟨rfl, by rw [hU], by rw [hU]; exact hP, va_K.moved hW.alike hK, hD.weaken (fun _ _ _ _ => trivial)⟩
/-- a contract of a method that may write -/
theorem gMet {σ : Type} {l : Launch} {D : va_G} {tys : List (ClassId × FieldType)} {I : σ → List Nat → (Nat → va_E) → Prop} {u : σ} {own : String} {y : MethodName} {b : ByteArray} {n : Nat} {ret : Option FieldType} {av : List Value} {Qc : (Nat → Prop) → Array Value → State → Outcome → State → Prop} {mc ms dp : Nat} {LL : List Nat} {f : Nat → va_E} {sz : Nat} (hy : plainName y.cls = true) (ho : y.cls = own) (hI : I u LL f) (hav : (lg_sl av).length ≤ n)
    (body : ∀ (p : Program) (e : Env) (s : State) (m : MethodId) (below : List Frame) (meth : Method) (c : Code) (ls : Array Slot) (A : Nat → Prop), gX own tys D p s m av.toArray c b n → meth.sig.returnType = ret → meth.locks = false → meth.name = y.name → (∀ q : Nat, s.heap.size ≤ q → A q) → gH D I u A s.heap s.heap [] → lv_has ls n (lv_args 0 av) → W p l e (rmL dp mc ms) s m av.toArray below meth c s.heap [] 0 0 (MQ below (Qc A) av.toArray s mc ms A) (F0 m 0 ls [])) :
    Met l y (wz y b n ret) (rmL dp mc ms) (gP D tys LL f sz av) (Qc (va_A (va_pl LL f) sz)) mc ms (va_A (va_pl LL f) sz) := by
  refine Met.ofW (cc := b) (maxL := n) (ret := ret) hy rfl ?_
  intro p e s m args below meth c s₁ B hml hv
  obtain ⟨rfl, hsz, hP, hK, hD0⟩ := hv
  subst hsz
  rw [lg_entry_eq]
  have hts := atoms_spec (ws := wz y b n ret) B.pre
  have hown : s.vm.findClass y.cls = some m.cls := findClass_of_methodNamed B.named
  exact body p e s m below meth c _ _ ⟨B.exec, B.bytes, fun w h => hts w (List.mem_cons_of_mem _ h), by rw [← ho]; exact hown, hK, hml⟩ B.returns B.notSynchronized (name_of_methodNamed B.named B.method).1 (fun q h => Or.inr h) ⟨LL, f, hI, hP, hD0.self, va_S.rf⟩ (lv_entry av hav)
/-- a contract of a method that only reads -/
theorem gMetR {σ : Type} {l : Launch} {D : va_G} {tys : List (ClassId × FieldType)} {I : σ → List Nat → (Nat → va_E) → Prop} {u : σ} {own : String} {y : MethodName} {b : ByteArray} {n : Nat} {ret : Option FieldType} {av : List Value} {Qc : Array Value → State → Outcome → State → Prop} {dp : Nat} {LL : List Nat} {f : Nat → va_E} {sz : Nat} (hy : plainName y.cls = true) (ho : y.cls = own) (hI : I u LL f) (hav : (lg_sl av).length ≤ n)
    (body : ∀ (p : Program) (e : Env) (s : State) (m : MethodId) (below : List Frame) (meth : Method) (c : Code) (ls : Array Slot), gX own tys D p s m av.toArray c b n → meth.sig.returnType = ret → meth.locks = false → gH D I u (fun _ => True) s.heap s.heap [] → lv_has ls n (lv_args 0 av) → W p l e (rmL dp 0 0) s m av.toArray below meth c s.heap [] 0 0 (MQ below Qc av.toArray s 0 0 (fun _ => False)) (F0 m 0 ls [])) :
    Met l y (wz y b n ret) (rmL dp 0 0) (gP D tys LL f sz av) Qc 0 0 (fun _ => False) := by
  refine Met.ofW (cc := b) (maxL := n) (ret := ret) hy rfl ?_
  intro p e s m args below meth c s₁ B hml hv
  obtain ⟨rfl, hsz, hP, hK, hD0⟩ := hv
  subst hsz
  rw [lg_entry_eq]
  have hts := atoms_spec (ws := wz y b n ret) B.pre
  have hown : s.vm.findClass y.cls = some m.cls := findClass_of_methodNamed B.named
  exact body p e s m below meth c _ ⟨B.exec, B.bytes, fun w h => hts w (List.mem_cons_of_mem _ h), by rw [← ho]; exact hown, hK, hml⟩ B.returns B.notSynchronized ⟨LL, f, hI, hP, hD0, va_S.rf⟩ (lv_entry av hav)
/-- a contract of a method that looks at its arguments alone -/
theorem gMetS {l : Launch} {own : String} {y : MethodName} {b : ByteArray} {n : Nat} {ret : Option FieldType} {av : List Value} {Qc : Array Value → State → Outcome → State → Prop} {dp : Nat} (hy : plainName y.cls = true) (ho : y.cls = own) (hav : (lg_sl av).length ≤ n)
    (body : ∀ (p : Program) (e : Env) (s : State) (m : MethodId) (below : List Frame) (meth : Method) (c : Code) (ls : Array Slot), p.tables.exec = Jvm.exec → c.code = b → (∀ w ∈ wA, w.before av.toArray s = true) → s.vm.findClass own = some m.cls → c.maxLocals = n → meth.sig.returnType = ret → meth.locks = false → lv_has ls n (lv_args 0 av) → W p l e (rmL dp 0 0) s m av.toArray below meth c s.heap [] 0 0 (MQ below Qc av.toArray s 0 0 (fun _ => False)) (F0 m 0 ls [])) :
    Met l y (wz y b n ret) (rmL dp 0 0) (fun v _ => v = av.toArray) Qc 0 0 (fun _ => False) := by
  refine Met.ofW (cc := b) (maxL := n) (ret := ret) hy rfl ?_
  intro p e s m args below meth c s₁ B hml hv
  subst hv
  rw [lg_entry_eq]
  have hts := atoms_spec (ws := wz y b n ret) B.pre
  have hown : s.vm.findClass y.cls = some m.cls := findClass_of_methodNamed B.named
  exact body p e s m below meth c _ B.exec B.bytes (fun w h => hts w (List.mem_cons_of_mem _ h)) (by rw [← ho]; exact hown) hml B.returns B.notSynchronized (lv_entry av hav)
/-- what the tables say of a call -/
def gK (own : String) (idx : Nat) (y : MethodName) (b : ByteArray) (n : Nat) (r : Option FieldType) (k : Nat) : Prop := Cond.code y b n r ∈ wA ∧ Cond.initialized y.cls ∈ wA ∧ Cond.methodLink own idx y ∈ wA ∧ y.cls ≠ "java/lang/invoke/MethodHandle" ∧ y.cls ≠ "java/lang/invoke/VarHandle" ∧ (parseMethodDescriptor y.desc).map (fun d => d.parameters.length) = some k
def gKS (own : String) (idx : Nat) (y : MethodName) (b : ByteArray) (n : Nat) (r : Option FieldType) (k : Nat) : Prop := gK own idx y b n r k ∧ Cond.static y ∈ wA
def gKV (own : String) (idx : Nat) (y : MethodName) (b : ByteArray) (n : Nat) (r : Option FieldType) (k : Nat) : Prop := gK own idx y b n r k ∧ Cond.instanceMethod y ∈ wA ∧ Cond.selects y.cls y y ∈ wA
def gKI (own : String) (idx : Nat) (y : MethodName) (b : ByteArray) (n : Nat) (k : Nat) : Prop := gK own idx y b n none k ∧ y.name = "<init>" ∧ Cond.instanceMethod y ∈ wA
theorem gK.B {own : String} {idx : Nat} {y : MethodName} {b : ByteArray} {n : Nat} {r : Option FieldType} {k : Nat} (h : gK own idx y b n r k) {R : Room} {s : State} {args : Array Value} (hts : ∀ w ∈ wA, w.before args s = true) {dp mc ms : Nat} (hR : dp + 1 ≤ R.frames ∧ 8 + (n + 11) + 34 * dp ≤ R.locals) : CallB R s args own idx y b n r (wz y b n r) (rmL dp mc ms) mc ms k :=
  callB_of k hts (gz h.1) rfl rfl rfl (hts _ h.2.1) (hts _ h.2.2.1) h.2.2.2 hR
section GC
variable {p : Program} {l : Launch} {e : Env} {R : Room} {s : State} {m : MethodId} {args : Array Value} {below : List Frame} {meth : Method} {c : Code} {H : Heap} {locs : List Loc} {cells slots : Nat} {Q : State → Prop}
variable {cc : ByteArray} {pc : Nat} {ls : Array Slot} {rest st : List Value} {D : va_G} {A : Nat → Prop} {tys : List (ClassId × FieldType)} {H0 : Heap} {own : String} {nL : Nat} {σ : Type} {I : σ → List Nat → (Nat → va_E) → Prop} {u : σ} {y : MethodName} {b : ByteArray} {n dp idx mc ms : Nat} {r : Option FieldType} {av : List Value}
theorem gX.fix (h : gX own tys D p s m args c cc nL) : CallFix p m c cc nL s args wA own := ⟨h.1, h.2.1, h.2.2.2.2.2, h.2.2.2.1, h.2.2.1⟩
-- a static method that only reads
theorem gcSi {post : Int32 → Prop} (hC : gX own tys D p s m args c cc nL) (hls : ls.size = nL) (hH : gH D I u A H0 H locs) (M : ∀ LL f sz, I u LL f → Met l y (wz y b n r) (rmL dp 0 0) (gP D tys LL f sz av) (vp_Si post) 0 0 (fun _ => False)) (hk : gKS own idx y b n r av.length) (hR : dp + 1 ≤ R.frames ∧ 8 + (n + 11) + 34 * dp ≤ R.locals) (hdg : decode cc pc = .ok (.invokestatic idx, 3)) (hcs : cells ≤ R.cells ∧ slots ≤ R.slots) (hst : st = av.reverse ++ rest) (hcat : (rest.map fun v => v.category).sum ≤ 8) (kk : ∀ v : Int32, post v → W p l e R s m args below meth c H locs cells slots Q (F0 m (pc + 3) ls (.int v :: rest))) : W p l e R s m args below meth c H locs cells slots Q (F0 m pc ls st) := by
  obtain ⟨LL, f, hI, hP, hD, hS⟩ := hH
  exact vp_callSi (W.runS (As := av) hC.fix (M LL f H.size hI) ⟨hk.1.B hC.2.2.1 hR, hC.2.2.1 _ hk.2⟩ ⟨gP_blind, fun U hU hW => gP_pre hC.2.2.2.2.1 hP hD hU hW⟩ rfl rfl hls hst (lv_room hcat) hdg hcs) kk
theorem gcSl {post : Int64 → Prop} (hC : gX own tys D p s m args c cc nL) (hls : ls.size = nL) (hH : gH D I u A H0 H locs) (M : ∀ LL f sz, I u LL f → Met l y (wz y b n r) (rmL dp 0 0) (gP D tys LL f sz av) (vp_Sl post) 0 0 (fun _ => False)) (hk : gKS own idx y b n r av.length) (hR : dp + 1 ≤ R.frames ∧ 8 + (n + 11) + 34 * dp ≤ R.locals) (hdg : decode cc pc = .ok (.invokestatic idx, 3)) (hcs : cells ≤ R.cells ∧ slots ≤ R.slots) (hst : st = av.reverse ++ rest) (hcat : (rest.map fun v => v.category).sum ≤ 8) (kk : ∀ v : Int64, post v → W p l e R s m args below meth c H locs cells slots Q (F0 m (pc + 3) ls (.long v :: rest))) : W p l e R s m args below meth c H locs cells slots Q (F0 m pc ls st) := by
  obtain ⟨LL, f, hI, hP, hD, hS⟩ := hH
  exact vp_callSl (W.runS (As := av) hC.fix (M LL f H.size hI) ⟨hk.1.B hC.2.2.1 hR, hC.2.2.1 _ hk.2⟩ ⟨gP_blind, fun U hU hW => gP_pre hC.2.2.2.2.1 hP hD hU hW⟩ rfl rfl hls hst (lv_room hcat) hdg hcs) kk
-- a static method of its arguments alone
theorem gcTi {post : Int32 → Prop} (hF : CallFix p m c cc nL s args wA own) (hls : ls.size = nL) (M : Met l y (wz y b n r) (rmL dp 0 0) (fun v _ => v = av.toArray) (vp_Si post) 0 0 (fun _ => False)) (hk : gKS own idx y b n r av.length) (hR : dp + 1 ≤ R.frames ∧ 8 + (n + 11) + 34 * dp ≤ R.locals) (hdg : decode cc pc = .ok (.invokestatic idx, 3)) (hcs : cells ≤ R.cells ∧ slots ≤ R.slots) (hst : st = av.reverse ++ rest) (hcat : (rest.map fun v => v.category).sum ≤ 8) (kk : ∀ v : Int32, post v → W p l e R s m args below meth c H locs cells slots Q (F0 m (pc + 3) ls (.int v :: rest))) : W p l e R s m args below meth c H locs cells slots Q (F0 m pc ls st) :=
  vp_callSi (W.runS (As := av) hF M ⟨hk.1.B hF.2.2.2.2 hR, hF.2.2.2.2 _ hk.2⟩ preEq rfl rfl hls hst (lv_room hcat) hdg hcs) kk
theorem gcTl {post : Int64 → Prop} (hF : CallFix p m c cc nL s args wA own) (hls : ls.size = nL) (M : Met l y (wz y b n r) (rmL dp 0 0) (fun v _ => v = av.toArray) (vp_Sl post) 0 0 (fun _ => False)) (hk : gKS own idx y b n r av.length) (hR : dp + 1 ≤ R.frames ∧ 8 + (n + 11) + 34 * dp ≤ R.locals) (hdg : decode cc pc = .ok (.invokestatic idx, 3)) (hcs : cells ≤ R.cells ∧ slots ≤ R.slots) (hst : st = av.reverse ++ rest) (hcat : (rest.map fun v => v.category).sum ≤ 8) (kk : ∀ v : Int64, post v → W p l e R s m args below meth c H locs cells slots Q (F0 m (pc + 3) ls (.long v :: rest))) : W p l e R s m args below meth c H locs cells slots Q (F0 m pc ls st) :=
  vp_callSl (W.runS (As := av) hF M ⟨hk.1.B hF.2.2.2.2 hR, hF.2.2.2.2 _ hk.2⟩ preEq rfl rfl hls hst (lv_room hcat) hdg hcs) kk
-- an instance method that only reads; its receiver a
theorem gcVi {post : Int32 → Prop} {a ci : Nat} {fs : List Value} {q : vw_C} (hC : gX own tys D p s m args c cc nL) (hls : ls.size = nL) (hH : gH D I u A H0 H locs) (M : ∀ LL f sz, I u LL f → Met l y (wz y b n r) (rmL dp 0 0) (gP D tys LL f sz (.ref a :: av)) (vp_Si post) 0 0 (fun _ => False)) (ha : ∀ LL f, I u LL f → a ∈ LL ∧ f a = .inr (ci, fs)) (hc : vwCl[ci]? = some q) (hq : q.1 = y.cls) (hk : gKV own idx y b n r av.length) (hR : dp + 1 ≤ R.frames ∧ 8 + (n + 11) + 34 * dp ≤ R.locals) (hdg : decode cc pc = .ok (.invokevirtual idx, 3)) (hcs : cells ≤ R.cells ∧ slots ≤ R.slots) (hst : st = av.reverse ++ .ref a :: rest) (hcat : (rest.map fun v => v.category).sum ≤ 8) (kk : ∀ v : Int32, post v → W p l e R s m args below meth c H locs cells slots Q (F0 m (pc + 3) ls (.int v :: rest))) : W p l e R s m args below meth c H locs cells slots Q (F0 m pc ls st) := by
  obtain ⟨LL, f, hI, hP, hD, hS⟩ := hH
  have hr := pw_recv hC.2.2.2.2.1 hP (ha LL f hI).1 (ha LL f hI).2 hc
  rw [hq] at hr
  exact vp_callSi (W.runV (C := y.cls) (As := av) hC.fix (M LL f H.size hI) ⟨hk.1.B hC.2.2.1 hR, hC.2.2.1 _ hk.2.1, hC.2.2.1 _ hk.2.2⟩ ⟨gP_blind, hr, fun U hU hW => gP_pre hC.2.2.2.2.1 hP hD hU hW⟩ rfl rfl hls hst (lv_room hcat) hdg hcs) kk
theorem gcVl {post : Int64 → Prop} {a ci : Nat} {fs : List Value} {q : vw_C} (hC : gX own tys D p s m args c cc nL) (hls : ls.size = nL) (hH : gH D I u A H0 H locs) (M : ∀ LL f sz, I u LL f → Met l y (wz y b n r) (rmL dp 0 0) (gP D tys LL f sz (.ref a :: av)) (vp_Sl post) 0 0 (fun _ => False)) (ha : ∀ LL f, I u LL f → a ∈ LL ∧ f a = .inr (ci, fs)) (hc : vwCl[ci]? = some q) (hq : q.1 = y.cls) (hk : gKV own idx y b n r av.length) (hR : dp + 1 ≤ R.frames ∧ 8 + (n + 11) + 34 * dp ≤ R.locals) (hdg : decode cc pc = .ok (.invokevirtual idx, 3)) (hcs : cells ≤ R.cells ∧ slots ≤ R.slots) (hst : st = av.reverse ++ .ref a :: rest) (hcat : (rest.map fun v => v.category).sum ≤ 8) (kk : ∀ v : Int64, post v → W p l e R s m args below meth c H locs cells slots Q (F0 m (pc + 3) ls (.long v :: rest))) : W p l e R s m args below meth c H locs cells slots Q (F0 m pc ls st) := by
  obtain ⟨LL, f, hI, hP, hD, hS⟩ := hH
  have hr := pw_recv hC.2.2.2.2.1 hP (ha LL f hI).1 (ha LL f hI).2 hc
  rw [hq] at hr
  exact vp_callSl (W.runV (C := y.cls) (As := av) hC.fix (M LL f H.size hI) ⟨hk.1.B hC.2.2.1 hR, hC.2.2.1 _ hk.2.1, hC.2.2.1 _ hk.2.2⟩ ⟨gP_blind, hr, fun U hU hW => gP_pre hC.2.2.2.2.1 hP hD hU hW⟩ rfl rfl hls hst (lv_room hcat) hdg hcs) kk
theorem gcVq {post : Option Nat → Prop} {a ci : Nat} {fs : List Value} {q : vw_C} (hC : gX own tys D p s m args c cc nL) (hls : ls.size = nL) (hH : gH D I u A H0 H locs) (M : ∀ LL f sz, I u LL f → Met l y (wz y b n r) (rmL dp 0 0) (gP D tys LL f sz (.ref a :: av)) (va_Sq post) 0 0 (fun _ => False)) (ha : ∀ LL f, I u LL f → a ∈ LL ∧ f a = .inr (ci, fs)) (hc : vwCl[ci]? = some q) (hq : q.1 = y.cls) (hk : gKV own idx y b n r av.length) (hR : dp + 1 ≤ R.frames ∧ 8 + (n + 11) + 34 * dp ≤ R.locals) (hdg : decode cc pc = .ok (.invokevirtual idx, 3)) (hcs : cells ≤ R.cells ∧ slots ≤ R.slots) (hst : st = av.reverse ++ .ref a :: rest) (hcat : (rest.map fun v => v.category).sum ≤ 8) (kk : ∀ v : Option Nat, post v → W p l e R s m args below meth c H locs cells slots Q (F0 m (pc + 3) ls (va_rf v :: rest))) : W p l e R s m args below meth c H locs cells slots Q (F0 m pc ls st) := by
  obtain ⟨LL, f, hI, hP, hD, hS⟩ := hH
  have hr := pw_recv hC.2.2.2.2.1 hP (ha LL f hI).1 (ha LL f hI).2 hc
  rw [hq] at hr
  exact va_csq (W.runV (C := y.cls) (As := av) hC.fix (M LL f H.size hI) ⟨hk.1.B hC.2.2.1 hR, hC.2.2.1 _ hk.2.1, hC.2.2.1 _ hk.2.2⟩ ⟨gP_blind, hr, fun U hU hW => gP_pre hC.2.2.2.2.1 hP hD hU hW⟩ rfl rfl hls hst (lv_room hcat) hdg hcs) kk
/-- behind a call that writes: the world again -/
theorem gH.back {LL : List Nat} {f : Nat → va_E} {u' : σ} {t : State} {H1 : Heap} {locs1 : List Loc} (hB : gB D tys I (va_A (va_pl LL f) H.size) u' t) (ht : t.heap = H1) (hF : ∀ q, va_A (va_pl LL f) H.size q → A q) (hS : va_S A H0 H1 locs1) : gH D I u' A H0 H1 locs1 := by
  obtain ⟨L2, f2, h1, h2, h3, h4⟩ := hB
  exact ⟨L2, f2, h1, by rw [← ht]; exact h2, h4.weaken (fun _ q _ h => hF q.1 h), hS⟩
theorem gH.free {LL : List Nat} {f : Nat → va_E} (hD : va_D A (va_pl LL f)) (hS : va_S A H0 H locs) (hA : ∀ q, H0.size ≤ q → A q) : ∀ q, va_A (va_pl LL f) H.size q → A q := fun q h => by
  rcases h with ⟨k, x, h⟩ | h
  · exact hD.2 k _ h
  · exact hA q (Nat.le_trans hS.1 h)
-- methods that write
theorem gcWSv {post : σ → Prop} (hC : gX own tys D p s m args c cc nL) (hls : ls.size = nL) (hA : ∀ q, H0.size ≤ q → A q) (hH : gH D I u A H0 H locs) (M : ∀ LL f sz, I u LL f → Met l y (wz y b n r) (rmL dp mc ms) (gP D tys LL f sz av) (va_Qv post (gB D tys I (va_A (va_pl LL f) sz)) (va_A (va_pl LL f) sz)) mc ms (va_A (va_pl LL f) sz)) (hk : gKS own idx y b n r av.length) (hR : dp + 1 ≤ R.frames ∧ 8 + (n + 11) + 34 * dp ≤ R.locals) (hdg : decode cc pc = .ok (.invokestatic idx, 3)) (hcs : cells + mc ≤ R.cells ∧ slots + ms ≤ R.slots) (hst : st = av.reverse ++ rest) (hcat : (rest.map fun v => v.category).sum ≤ 8) (kk : ∀ (u' : σ) (H1 : Heap) (locs1 : List Loc), post u' → gH D I u' A H0 H1 locs1 → W p l e R s m args below meth c H1 locs1 (cells + mc) (slots + ms) Q (F0 m (pc + 3) ls rest)) : W p l e R s m args below meth c H locs cells slots Q (F0 m pc ls st) := by
  obtain ⟨LL, f, hI, hP, hD, hS⟩ := hH
  have hF := gH.free hD hS hA
  exact va_callv (va_runS (As := av) hC.fix (M LL f H.size hI) ⟨hk.1.B hC.2.2.1 hR, hC.2.2.1 _ hk.2⟩ ⟨gP_blind, fun U hU hW => gP_pre hC.2.2.2.2.1 hP hD hU hW⟩ rfl rfl hls hst (lv_room hcat) hdg hcs) hS (fun q _ h => hF q h) hF (fun u' t H1 locs1 ht hvm hp hB hz hk1 hS1 => kk u' H1 locs1 hp (gH.back hB ht hF hS1))
theorem gcWVv {post : σ → Prop} {a ci : Nat} {fs : List Value} {q : vw_C} (hC : gX own tys D p s m args c cc nL) (hls : ls.size = nL) (hA : ∀ q, H0.size ≤ q → A q) (hH : gH D I u A H0 H locs) (M : ∀ LL f sz, I u LL f → Met l y (wz y b n r) (rmL dp mc ms) (gP D tys LL f sz (.ref a :: av)) (va_Qv post (gB D tys I (va_A (va_pl LL f) sz)) (va_A (va_pl LL f) sz)) mc ms (va_A (va_pl LL f) sz)) (ha : ∀ LL f, I u LL f → a ∈ LL ∧ f a = .inr (ci, fs)) (hc : vwCl[ci]? = some q) (hq : q.1 = y.cls) (hk : gKV own idx y b n r av.length) (hR : dp + 1 ≤ R.frames ∧ 8 + (n + 11) + 34 * dp ≤ R.locals) (hdg : decode cc pc = .ok (.invokevirtual idx, 3)) (hcs : cells + mc ≤ R.cells ∧ slots + ms ≤ R.slots) (hst : st = av.reverse ++ .ref a :: rest) (hcat : (rest.map fun v => v.category).sum ≤ 8) (kk : ∀ (u' : σ) (H1 : Heap) (locs1 : List Loc), post u' → gH D I u' A H0 H1 locs1 → W p l e R s m args below meth c H1 locs1 (cells + mc) (slots + ms) Q (F0 m (pc + 3) ls rest)) : W p l e R s m args below meth c H locs cells slots Q (F0 m pc ls st) := by
  obtain ⟨LL, f, hI, hP, hD, hS⟩ := hH
  have hF := gH.free hD hS hA
  have hr := pw_recv hC.2.2.2.2.1 hP (ha LL f hI).1 (ha LL f hI).2 hc
  rw [hq] at hr
  exact va_callv (va_runV (C := y.cls) (As := av) hC.fix (M LL f H.size hI) ⟨hk.1.B hC.2.2.1 hR, hC.2.2.1 _ hk.2.1, hC.2.2.1 _ hk.2.2⟩ ⟨gP_blind, hr, fun U hU hW => gP_pre hC.2.2.2.2.1 hP hD hU hW⟩ rfl rfl hls hst (lv_room hcat) hdg hcs) hS (fun q _ h => hF q h) hF (fun u' t H1 locs1 ht hvm hp hB hz hk1 hS1 => kk u' H1 locs1 hp (gH.back hB ht hF hS1))
theorem gcWVi {post : Int32 → σ → Prop} {a ci : Nat} {fs : List Value} {q : vw_C} (hC : gX own tys D p s m args c cc nL) (hls : ls.size = nL) (hA : ∀ q, H0.size ≤ q → A q) (hH : gH D I u A H0 H locs) (M : ∀ LL f sz, I u LL f → Met l y (wz y b n r) (rmL dp mc ms) (gP D tys LL f sz (.ref a :: av)) (va_Qi post (gB D tys I (va_A (va_pl LL f) sz)) (va_A (va_pl LL f) sz)) mc ms (va_A (va_pl LL f) sz)) (ha : ∀ LL f, I u LL f → a ∈ LL ∧ f a = .inr (ci, fs)) (hc : vwCl[ci]? = some q) (hq : q.1 = y.cls) (hk : gKV own idx y b n r av.length) (hR : dp + 1 ≤ R.frames ∧ 8 + (n + 11) + 34 * dp ≤ R.locals) (hdg : decode cc pc = .ok (.invokevirtual idx, 3)) (hcs : cells + mc ≤ R.cells ∧ slots + ms ≤ R.slots) (hst : st = av.reverse ++ .ref a :: rest) (hcat : (rest.map fun v => v.category).sum ≤ 8) (kk : ∀ (v : Int32) (u' : σ) (H1 : Heap) (locs1 : List Loc), post v u' → gH D I u' A H0 H1 locs1 → W p l e R s m args below meth c H1 locs1 (cells + mc) (slots + ms) Q (F0 m (pc + 3) ls (.int v :: rest))) : W p l e R s m args below meth c H locs cells slots Q (F0 m pc ls st) := by
  obtain ⟨LL, f, hI, hP, hD, hS⟩ := hH
  have hF := gH.free hD hS hA
  have hr := pw_recv hC.2.2.2.2.1 hP (ha LL f hI).1 (ha LL f hI).2 hc
  rw [hq] at hr
  exact va_calli (va_runV (C := y.cls) (As := av) hC.fix (M LL f H.size hI) ⟨hk.1.B hC.2.2.1 hR, hC.2.2.1 _ hk.2.1, hC.2.2.1 _ hk.2.2⟩ ⟨gP_blind, hr, fun U hU hW => gP_pre hC.2.2.2.2.1 hP hD hU hW⟩ rfl rfl hls hst (lv_room hcat) hdg hcs) hS (fun q _ h => hF q h) hF (fun v u' t H1 locs1 ht hvm hp hB hz hk1 hS1 => kk v u' H1 locs1 hp (gH.back hB ht hF hS1))
theorem gcWVq {post : Option Nat → σ → Prop} {a ci : Nat} {fs : List Value} {q : vw_C} (hC : gX own tys D p s m args c cc nL) (hls : ls.size = nL) (hA : ∀ q, H0.size ≤ q → A q) (hH : gH D I u A H0 H locs) (M : ∀ LL f sz, I u LL f → Met l y (wz y b n r) (rmL dp mc ms) (gP D tys LL f sz (.ref a :: av)) (va_Qq post (gB D tys I (va_A (va_pl LL f) sz)) (va_A (va_pl LL f) sz)) mc ms (va_A (va_pl LL f) sz)) (ha : ∀ LL f, I u LL f → a ∈ LL ∧ f a = .inr (ci, fs)) (hc : vwCl[ci]? = some q) (hq : q.1 = y.cls) (hk : gKV own idx y b n r av.length) (hR : dp + 1 ≤ R.frames ∧ 8 + (n + 11) + 34 * dp ≤ R.locals) (hdg : decode cc pc = .ok (.invokevirtual idx, 3)) (hcs : cells + mc ≤ R.cells ∧ slots + ms ≤ R.slots) (hst : st = av.reverse ++ .ref a :: rest) (hcat : (rest.map fun v => v.category).sum ≤ 8) (kk : ∀ (v : Option Nat) (u' : σ) (H1 : Heap) (locs1 : List Loc), post v u' → gH D I u' A H0 H1 locs1 → W p l e R s m args below meth c H1 locs1 (cells + mc) (slots + ms) Q (F0 m (pc + 3) ls (va_rf v :: rest))) : W p l e R s m args below meth c H locs cells slots Q (F0 m pc ls st) := by
  obtain ⟨LL, f, hI, hP, hD, hS⟩ := hH
  have hF := gH.free hD hS hA
  have hr := pw_recv hC.2.2.2.2.1 hP (ha LL f hI).1 (ha LL f hI).2 hc
  rw [hq] at hr
  exact va_callq (va_runV (C := y.cls) (As := av) hC.fix (M LL f H.size hI) ⟨hk.1.B hC.2.2.1 hR, hC.2.2.1 _ hk.2.1, hC.2.2.1 _ hk.2.2⟩ ⟨gP_blind, hr, fun U hU hW => gP_pre hC.2.2.2.2.1 hP hD hU hW⟩ rfl rfl hls hst (lv_room hcat) hdg hcs) hS (fun q _ h => hF q h) hF (fun v u' t H1 locs1 ht hvm hp hB hz hk1 hS1 => kk v u' H1 locs1 hp (gH.back hB ht hF hS1))
-- ends
theorem grSi {post : Int32 → Prop} {v : Int32} {ty : FieldType} (hC : gX own tys D p s m args c cc nL) (hr : meth.sig.returnType = some ty) (hlk : meth.locks = false) (hn : narrow ty (.int v) = .int v) (hp : post v) (hdg : decode cc pc = .ok (.ireturn, 1)) : W p l e R s m args below meth c s.heap [] 0 0 (MQ below (vp_Si post) args s 0 0 (fun _ => False)) (F0 m pc ls [.int v]) :=
  W.zret hC.1 hC.2.1 hr hn (fun t ht hW => ⟨v, rfl, hp, ht⟩) (fun q h => by cases h) hdg
theorem grSl {post : Int64 → Prop} {v : Int64} (hC : gX own tys D p s m args c cc nL) (hr : meth.sig.returnType = some .long) (hlk : meth.locks = false) (hp : post v) (hdg : decode cc pc = .ok (.lreturn, 1)) : W p l e R s m args below meth c s.heap [] 0 0 (MQ below (vp_Sl post) args s 0 0 (fun _ => False)) (F0 m pc ls [.long v]) :=
  W.lret hC.1 hC.2.1 hr (fun t ht hW => ⟨v, rfl, hp, ht⟩) (fun q h => by cases h) hdg
theorem grSq {post : Option Nat → Prop} {v : Option Nat} {C : String} (hC : gX own tys D p s m args c cc nL) (hr : meth.sig.returnType = some (.object C)) (hlk : meth.locks = false) (hp : post v) (hdg : decode cc pc = .ok (.areturn, 1)) : W p l e R s m args below meth c s.heap [] 0 0 (MQ below (va_Sq post) args s 0 0 (fun _ => False)) (F0 m pc ls [va_rf v]) :=
  W.aret hC.1 hC.2.1 hr (Or.inl ⟨_, rfl⟩) (va_rf_or v) (fun t ht hW => ⟨v, rfl, hp, ht⟩) (fun q h => by cases h) hdg
theorem gH.B {u' : σ} {t : State} (hC : gX own tys D p s m args c cc nL) (hH : gH D I u' A s.heap H locs) (ht : t.heap = H) (hW : s.WarmedH t.vm) : gB D tys I A u' t ∧ va_F A s t := by
  obtain ⟨LL, f, h1, h2, h3, h4⟩ := hH
  exact ⟨⟨LL, f, h1, by rw [ht]; exact h2, va_K.moved hW.alike hC.2.2.2.2.1, h3⟩, h4.F ht⟩
theorem gH.L {u' : σ} (hH : gH D I u' A s.heap H locs) : ∀ q ∈ locs, A q.base := by
  obtain ⟨LL, f, h1, h2, h3, h4⟩ := hH
  exact h4.2.2
theorem grWi {post : Int32 → σ → Prop} {v : Int32} {ty : FieldType} {u' : σ} (hC : gX own tys D p s m args c cc nL) (hr : meth.sig.returnType = some ty) (hlk : meth.locks = false) (hn : narrow ty (.int v) = .int v) (hH : gH D I u' A s.heap H locs) (hp : post v u') (hdg : decode cc pc = .ok (.ireturn, 1)) : W p l e R s m args below meth c H locs cells slots (MQ below (va_Qi post (gB D tys I A) A) args s cells slots A) (F0 m pc ls [.int v]) :=
  W.zret hC.1 hC.2.1 hr hn (fun t ht hW => ⟨⟨v, u', rfl, hp, (gH.B hC hH ht hW).1⟩, (gH.B hC hH ht hW).2⟩) hH.L hdg
theorem grWv {post : σ → Prop} {u' : σ} (hC : gX own tys D p s m args c cc nL) (hr : meth.sig.returnType = none) (hlk : meth.locks = false) (hH : gH D I u' A s.heap H locs) (hp : post u') (hdg : decode cc pc = .ok (.return_, 1)) : W p l e R s m args below meth c H locs cells slots (MQ below (va_Qv post (gB D tys I A) A) args s cells slots A) (F0 m pc ls []) :=
  W.vret hC.1 hC.2.1 hr (fun t ht hW => ⟨⟨u', rfl, hp, (gH.B hC hH ht hW).1⟩, (gH.B hC hH ht hW).2⟩) hH.L hdg
theorem grWq {post : Option Nat → σ → Prop} {v : Option Nat} {C : String} {u' : σ} (hC : gX own tys D p s m args c cc nL) (hr : meth.sig.returnType = some (.object C)) (hlk : meth.locks = false) (hH : gH D I u' A s.heap H locs) (hp : post v u') (hdg : decode cc pc = .ok (.areturn, 1)) : W p l e R s m args below meth c H locs cells slots (MQ below (va_Qq post (gB D tys I A) A) args s cells slots A) (F0 m pc ls [va_rf v]) :=
  W.aret hC.1 hC.2.1 hr (Or.inl ⟨_, rfl⟩) (va_rf_or v) (fun t ht hW => ⟨⟨v, u', rfl, hp, (gH.B hC hH ht hW).1⟩, (gH.B hC hH ht hW).2⟩) hH.L hdg
end GC
end
section
/-! ROWS OF WorkerRows: a field read or written, by the state -/
def cJ (k : ck_F) : ck_A × cs_S → List Nat → (Nat → va_E) → Prop := fun u LL f => cI k u.1 u.2 LL f
abbrev cX (D : va_G) (k : ck_F) (p : Program) (s : State) (m : MethodId) (args : Array Value) (c : Code) (cc : ByteArray) (n : Nat) : Prop := gX RX3 (ck_tys k) D p s m args c cc n
abbrev cG (D : va_G) (k : ck_F) (d : ck_A) (x : cs_S) (A : Nat → Prop) (H0 H : Heap) (locs : List Loc) : Prop := gH D (cJ k) (d, x) A H0 H locs
theorem cG.ok {D : va_G} {k : ck_F} {d : ck_A} {x : cs_S} {A : Nat → Prop} {H0 H : Heap} {locs : List Loc} (h : cG D k d x A H0 H locs) : cs_ok x := by
  obtain ⟨LL, f, hI, -⟩ := h
  exact cI.ok hI
theorem cJ.o {k : ck_F} {d : ck_A} {x : cs_S} : ∀ LL f, cJ k (d, x) LL f → kO k ∈ LL ∧ f (kO k) = .inr (3, eO k x) := fun LL f h => (show cI k d x LL f from h).2.1
theorem cG.injT {D : va_G} {k : ck_F} {d : ck_A} {x : cs_S} {A : Nat → Prop} {H0 H : Heap} {locs : List Loc} (h : cG D k d x A H0 H locs) {i j : Nat} (hi : i < nT x) (hj : j < nT x) (e : aTo d i = aTo d j) : i = j := by
  obtain ⟨LL, f, hI, -⟩ := h
  exact cI.injT hI hi hj e
theorem cG.injW {D : va_G} {k : ck_F} {d : ck_A} {x : cs_S} {A : Nat → Prop} {H0 H : Heap} {locs : List Loc} (h : cG D k d x A H0 H locs) {i j : Nat} (hi : i < nW x) (hj : j < nW x) (e : aWo d i = aWo d j) : i = j := by
  obtain ⟨LL, f, hI, -⟩ := h
  exact cI.injW hI hi hj e
theorem cG.injR {D : va_G} {k : ck_F} {d : ck_A} {x : cs_S} {A : Nat → Prop} {H0 H : Heap} {locs : List Loc} (h : cG D k d x A H0 H locs) {i j : Nat} (hi : i < nR x) (hj : j < nR x) (e : aRq d i = aRq d j) : i = j := by
  obtain ⟨LL, f, hI, -⟩ := h
  exact cI.injR hI hi hj e
theorem eA_in {n i : Nat} {ad : Nat → Nat} (h : i < n) : eA n ad i = some (ad i) := if_pos h
theorem eA_out {n i : Nat} {ad : Nat → Nat} (h : ¬ i < n) : eA n ad i = none := if_neg h
section CR
variable {p : Program} {l : Launch} {e : Env} {R : Room} {s : State} {m : MethodId} {args : Array Value} {below : List Frame} {meth : Method} {c : Code} {H : Heap} {locs : List Loc} {cells slots : Nat} {Q : State → Prop}
variable {cc : ByteArray} {pc nL : Nat} {ls : Array Slot} {rest : List Value} {D : va_G} {k : ck_F} {d : ck_A} {x : cs_S} {A : Nat → Prop} {H0 : Heap}
theorem gC_T_number (hC : cX D k p s m args c cc nL) (hH : cG D k d x A H0 H locs) {i : Nat} (hi : i < nT x) (hdg : decode cc pc = .ok (.getfield 48, 3)) (kk : W p l e R s m args below meth c H locs cells slots Q (F0 m (pc + 3) ls (.int (nI i) :: rest))) : W p l e R s m args below meth c H locs cells slots Q (F0 m pc ls (.ref (aTo d i) :: rest)) := by
  obtain ⟨LL, f, hI, hP, hD, hS⟩ := hH
  have h := (show cI k d x LL f from hI).2.2.2.2.2.1 i hi
  exact pw_get hC.1 hC.2.1 hC.2.2.1 inX1 hC.2.2.2.1 hC.2.2.2.2.1 hP h.1 h.2 rfl 0 (by decide) (hC.2.2.1 _ wf_C_48) rfl hdg kk
theorem gC_T_edition (hC : cX D k p s m args c cc nL) (hH : cG D k d x A H0 H locs) {i : Nat} (hi : i < nT x) (hdg : decode cc pc = .ok (.getfield 55, 3)) (kk : W p l e R s m args below meth c H locs cells slots Q (F0 m (pc + 3) ls (.long (tEd (gT x i)) :: rest))) : W p l e R s m args below meth c H locs cells slots Q (F0 m pc ls (.ref (aTo d i) :: rest)) := by
  obtain ⟨LL, f, hI, hP, hD, hS⟩ := hH
  have h := (show cI k d x LL f from hI).2.2.2.2.2.1 i hi
  exact pw_get hC.1 hC.2.1 hC.2.2.1 inX1 hC.2.2.2.1 hC.2.2.2.2.1 hP h.1 h.2 rfl 1 (by decide) (hC.2.2.1 _ wf_C_55) rfl hdg kk
theorem gC_T_quirk (hC : cX D k p s m args c cc nL) (hH : cG D k d x A H0 H locs) {i : Nat} (hi : i < nT x) (hdg : decode cc pc = .ok (.getfield 71, 3)) (kk : W p l e R s m args below meth c H locs cells slots Q (F0 m (pc + 3) ls (.int (tQu (gT x i)) :: rest))) : W p l e R s m args below meth c H locs cells slots Q (F0 m pc ls (.ref (aTo d i) :: rest)) := by
  obtain ⟨LL, f, hI, hP, hD, hS⟩ := hH
  have h := (show cI k d x LL f from hI).2.2.2.2.2.1 i hi
  exact pw_get hC.1 hC.2.1 hC.2.2.1 inX1 hC.2.2.2.1 hC.2.2.2.2.1 hP h.1 h.2 rfl 2 (by decide) (hC.2.2.1 _ wf_C_71) rfl hdg kk
theorem gC_T_bars (hC : cX D k p s m args c cc nL) (hH : cG D k d x A H0 H locs) {i : Nat} (hi : i < nT x) (hdg : decode cc pc = .ok (.getfield 170, 3)) (kk : W p l e R s m args below meth c H locs cells slots Q (F0 m (pc + 3) ls (.int (tBa (gT x i)) :: rest))) : W p l e R s m args below meth c H locs cells slots Q (F0 m pc ls (.ref (aTo d i) :: rest)) := by
  obtain ⟨LL, f, hI, hP, hD, hS⟩ := hH
  have h := (show cI k d x LL f from hI).2.2.2.2.2.1 i hi
  exact pw_get hC.1 hC.2.1 hC.2.2.1 inX1 hC.2.2.2.1 hC.2.2.2.2.1 hP h.1 h.2 rfl 3 (by decide) (hC.2.2.1 _ wf_C_170) rfl hdg kk
theorem gC_W_number (hC : cX D k p s m args c cc nL) (hH : cG D k d x A H0 H locs) {i : Nat} (hi : i < nW x) (hdg : decode cc pc = .ok (.getfield 173, 3)) (kk : W p l e R s m args below meth c H locs cells slots Q (F0 m (pc + 3) ls (.int (nI i) :: rest))) : W p l e R s m args below meth c H locs cells slots Q (F0 m pc ls (.ref (aWo d i) :: rest)) := by
  obtain ⟨LL, f, hI, hP, hD, hS⟩ := hH
  have h := (show cI k d x LL f from hI).2.2.2.2.2.2.1 i hi
  exact pw_get hC.1 hC.2.1 hC.2.2.1 inX2 hC.2.2.2.1 hC.2.2.2.2.1 hP h.1 h.2 rfl 0 (by decide) (hC.2.2.1 _ wf_C_173) rfl hdg kk
theorem gC_W_tool (hC : cX D k p s m args c cc nL) (hH : cG D k d x A H0 H locs) {i : Nat} (hi : i < nW x) (hdg : decode cc pc = .ok (.getfield 59, 3)) (kk : W p l e R s m args below meth c H locs cells slots Q (F0 m (pc + 3) ls (.ref (aTo d (wTo (gW x i))) :: rest))) : W p l e R s m args below meth c H locs cells slots Q (F0 m pc ls (.ref (aWo d i) :: rest)) := by
  obtain ⟨LL, f, hI, hP, hD, hS⟩ := hH
  have h := (show cI k d x LL f from hI).2.2.2.2.2.2.1 i hi
  exact pw_get hC.1 hC.2.1 hC.2.2.1 inX2 hC.2.2.2.1 hC.2.2.2.2.1 hP h.1 h.2 rfl 1 (by decide) (hC.2.2.1 _ wf_C_59) rfl hdg kk
theorem gC_W_edition (hC : cX D k p s m args c cc nL) (hH : cG D k d x A H0 H locs) {i : Nat} (hi : i < nW x) (hdg : decode cc pc = .ok (.getfield 137, 3)) (kk : W p l e R s m args below meth c H locs cells slots Q (F0 m (pc + 3) ls (.long (wEd (gW x i)) :: rest))) : W p l e R s m args below meth c H locs cells slots Q (F0 m pc ls (.ref (aWo d i) :: rest)) := by
  obtain ⟨LL, f, hI, hP, hD, hS⟩ := hH
  have h := (show cI k d x LL f from hI).2.2.2.2.2.2.1 i hi
  exact pw_get hC.1 hC.2.1 hC.2.2.1 inX2 hC.2.2.2.1 hC.2.2.2.2.1 hP h.1 h.2 rfl 2 (by decide) (hC.2.2.1 _ wf_C_137) rfl hdg kk
theorem gC_W_finished (hC : cX D k p s m args c cc nL) (hH : cG D k d x A H0 H locs) {i : Nat} (hi : i < nW x) (hdg : decode cc pc = .ok (.getfield 112, 3)) (kk : W p l e R s m args below meth c H locs cells slots Q (F0 m (pc + 3) ls (.int (wFi (gW x i)) :: rest))) : W p l e R s m args below meth c H locs cells slots Q (F0 m pc ls (.ref (aWo d i) :: rest)) := by
  obtain ⟨LL, f, hI, hP, hD, hS⟩ := hH
  have h := (show cI k d x LL f from hI).2.2.2.2.2.2.1 i hi
  exact pw_get hC.1 hC.2.1 hC.2.2.1 inX2 hC.2.2.2.1 hC.2.2.2.2.1 hP h.1 h.2 rfl 3 (by decide) (hC.2.2.1 _ wf_C_112) rfl hdg kk
theorem gC_W_trusted (hC : cX D k p s m args c cc nL) (hH : cG D k d x A H0 H locs) {i : Nat} (hi : i < nW x) (hdg : decode cc pc = .ok (.getfield 157, 3)) (kk : W p l e R s m args below meth c H locs cells slots Q (F0 m (pc + 3) ls (.int (wTr (gW x i)) :: rest))) : W p l e R s m args below meth c H locs cells slots Q (F0 m pc ls (.ref (aWo d i) :: rest)) := by
  obtain ⟨LL, f, hI, hP, hD, hS⟩ := hH
  have h := (show cI k d x LL f from hI).2.2.2.2.2.2.1 i hi
  exact pw_get hC.1 hC.2.1 hC.2.2.1 inX2 hC.2.2.2.1 hC.2.2.2.2.1 hP h.1 h.2 rfl 4 (by decide) (hC.2.2.1 _ wf_C_157) rfl hdg kk
theorem gC_W_memory (hC : cX D k p s m args c cc nL) (hH : cG D k d x A H0 H locs) {i : Nat} (hi : i < nW x) (hdg : decode cc pc = .ok (.getfield 115, 3)) (kk : W p l e R s m args below meth c H locs cells slots Q (F0 m (pc + 3) ls (.int (wMe (gW x i)) :: rest))) : W p l e R s m args below meth c H locs cells slots Q (F0 m pc ls (.ref (aWo d i) :: rest)) := by
  obtain ⟨LL, f, hI, hP, hD, hS⟩ := hH
  have h := (show cI k d x LL f from hI).2.2.2.2.2.2.1 i hi
  exact pw_get hC.1 hC.2.1 hC.2.2.1 inX2 hC.2.2.2.1 hC.2.2.2.2.1 hP h.1 h.2 rfl 5 (by decide) (hC.2.2.1 _ wf_C_115) rfl hdg kk
theorem gC_W_freeSince (hC : cX D k p s m args c cc nL) (hH : cG D k d x A H0 H locs) {i : Nat} (hi : i < nW x) (hdg : decode cc pc = .ok (.getfield 134, 3)) (kk : W p l e R s m args below meth c H locs cells slots Q (F0 m (pc + 3) ls (.int (wFr (gW x i)) :: rest))) : W p l e R s m args below meth c H locs cells slots Q (F0 m pc ls (.ref (aWo d i) :: rest)) := by
  obtain ⟨LL, f, hI, hP, hD, hS⟩ := hH
  have h := (show cI k d x LL f from hI).2.2.2.2.2.2.1 i hi
  exact pw_get hC.1 hC.2.1 hC.2.2.1 inX2 hC.2.2.2.1 hC.2.2.2.2.1 hP h.1 h.2 rfl 6 (by decide) (hC.2.2.1 _ wf_C_134) rfl hdg kk
theorem gC_W_endedBy (hC : cX D k p s m args c cc nL) (hH : cG D k d x A H0 H locs) {i : Nat} (hi : i < nW x) (hdg : decode cc pc = .ok (.getfield 128, 3)) (kk : W p l e R s m args below meth c H locs cells slots Q (F0 m (pc + 3) ls (.int (wEn (gW x i)) :: rest))) : W p l e R s m args below meth c H locs cells slots Q (F0 m pc ls (.ref (aWo d i) :: rest)) := by
  obtain ⟨LL, f, hI, hP, hD, hS⟩ := hH
  have h := (show cI k d x LL f from hI).2.2.2.2.2.2.1 i hi
  exact pw_get hC.1 hC.2.1 hC.2.2.1 inX2 hC.2.2.2.1 hC.2.2.2.2.1 hP h.1 h.2 rfl 7 (by decide) (hC.2.2.1 _ wf_C_128) rfl hdg kk
theorem gC_W_request (hC : cX D k p s m args c cc nL) (hH : cG D k d x A H0 H locs) {i : Nat} (hi : i < nW x) (hdg : decode cc pc = .ok (.getfield 104, 3)) (kk : W p l e R s m args below meth c H locs cells slots Q (F0 m (pc + 3) ls (va_rf ((wRq (gW x i)).map (aRq d)) :: rest))) : W p l e R s m args below meth c H locs cells slots Q (F0 m pc ls (.ref (aWo d i) :: rest)) := by
  obtain ⟨LL, f, hI, hP, hD, hS⟩ := hH
  have h := (show cI k d x LL f from hI).2.2.2.2.2.2.1 i hi
  exact pw_get hC.1 hC.2.1 hC.2.2.1 inX2 hC.2.2.2.1 hC.2.2.2.2.1 hP h.1 h.2 rfl 8 (by decide) (hC.2.2.1 _ wf_C_104) rfl hdg kk
theorem gC_R_number (hC : cX D k p s m args c cc nL) (hH : cG D k d x A H0 H locs) {i : Nat} (hi : i < nR x) (hdg : decode cc pc = .ok (.getfield 80, 3)) (kk : W p l e R s m args below meth c H locs cells slots Q (F0 m (pc + 3) ls (.int (nI i) :: rest))) : W p l e R s m args below meth c H locs cells slots Q (F0 m pc ls (.ref (aRq d i) :: rest)) := by
  obtain ⟨LL, f, hI, hP, hD, hS⟩ := hH
  have h := (show cI k d x LL f from hI).2.2.2.2.2.2.2 i hi
  exact pw_get hC.1 hC.2.1 hC.2.2.1 inX0 hC.2.2.2.1 hC.2.2.2.2.1 hP h.1 h.2 rfl 0 (by decide) (hC.2.2.1 _ wf_C_80) rfl hdg kk
theorem gC_R_tool (hC : cX D k p s m args c cc nL) (hH : cG D k d x A H0 H locs) {i : Nat} (hi : i < nR x) (hdg : decode cc pc = .ok (.getfield 185, 3)) (kk : W p l e R s m args below meth c H locs cells slots Q (F0 m (pc + 3) ls (.ref (aTo d (rTo (gR x i))) :: rest))) : W p l e R s m args below meth c H locs cells slots Q (F0 m pc ls (.ref (aRq d i) :: rest)) := by
  obtain ⟨LL, f, hI, hP, hD, hS⟩ := hH
  have h := (show cI k d x LL f from hI).2.2.2.2.2.2.2 i hi
  exact pw_get hC.1 hC.2.1 hC.2.2.1 inX0 hC.2.2.2.1 hC.2.2.2.2.1 hP h.1 h.2 rfl 1 (by decide) (hC.2.2.1 _ wf_C_185) rfl hdg kk
theorem gC_R_input (hC : cX D k p s m args c cc nL) (hH : cG D k d x A H0 H locs) {i : Nat} (hi : i < nR x) (hdg : decode cc pc = .ok (.getfield 138, 3)) (kk : W p l e R s m args below meth c H locs cells slots Q (F0 m (pc + 3) ls (.long (rIn (gR x i)) :: rest))) : W p l e R s m args below meth c H locs cells slots Q (F0 m pc ls (.ref (aRq d i) :: rest)) := by
  obtain ⟨LL, f, hI, hP, hD, hS⟩ := hH
  have h := (show cI k d x LL f from hI).2.2.2.2.2.2.2 i hi
  exact pw_get hC.1 hC.2.1 hC.2.2.1 inX0 hC.2.2.2.1 hC.2.2.2.2.1 hP h.1 h.2 rfl 2 (by decide) (hC.2.2.1 _ wf_C_138) rfl hdg kk
theorem gC_R_size (hC : cX D k p s m args c cc nL) (hH : cG D k d x A H0 H locs) {i : Nat} (hi : i < nR x) (hdg : decode cc pc = .ok (.getfield 118, 3)) (kk : W p l e R s m args below meth c H locs cells slots Q (F0 m (pc + 3) ls (.int (rSz (gR x i)) :: rest))) : W p l e R s m args below meth c H locs cells slots Q (F0 m pc ls (.ref (aRq d i) :: rest)) := by
  obtain ⟨LL, f, hI, hP, hD, hS⟩ := hH
  have h := (show cI k d x LL f from hI).2.2.2.2.2.2.2 i hi
  exact pw_get hC.1 hC.2.1 hC.2.2.1 inX0 hC.2.2.2.1 hC.2.2.2.2.1 hP h.1 h.2 rfl 3 (by decide) (hC.2.2.1 _ wf_C_118) rfl hdg kk
theorem gC_R_state (hC : cX D k p s m args c cc nL) (hH : cG D k d x A H0 H locs) {i : Nat} (hi : i < nR x) (hdg : decode cc pc = .ok (.getfield 85, 3)) (kk : W p l e R s m args below meth c H locs cells slots Q (F0 m (pc + 3) ls (.int (rSt (gR x i)) :: rest))) : W p l e R s m args below meth c H locs cells slots Q (F0 m pc ls (.ref (aRq d i) :: rest)) := by
  obtain ⟨LL, f, hI, hP, hD, hS⟩ := hH
  have h := (show cI k d x LL f from hI).2.2.2.2.2.2.2 i hi
  exact pw_get hC.1 hC.2.1 hC.2.2.1 inX0 hC.2.2.2.1 hC.2.2.2.2.1 hP h.1 h.2 rfl 4 (by decide) (hC.2.2.1 _ wf_C_85) rfl hdg kk
theorem gC_R_begun (hC : cX D k p s m args c cc nL) (hH : cG D k d x A H0 H locs) {i : Nat} (hi : i < nR x) (hdg : decode cc pc = .ok (.getfield 174, 3)) (kk : W p l e R s m args below meth c H locs cells slots Q (F0 m (pc + 3) ls (.int (rBe (gR x i)) :: rest))) : W p l e R s m args below meth c H locs cells slots Q (F0 m pc ls (.ref (aRq d i) :: rest)) := by
  obtain ⟨LL, f, hI, hP, hD, hS⟩ := hH
  have h := (show cI k d x LL f from hI).2.2.2.2.2.2.2 i hi
  exact pw_get hC.1 hC.2.1 hC.2.2.1 inX0 hC.2.2.2.1 hC.2.2.2.2.1 hP h.1 h.2 rfl 5 (by decide) (hC.2.2.1 _ wf_C_174) rfl hdg kk
theorem gC_R_unwanted (hC : cX D k p s m args c cc nL) (hH : cG D k d x A H0 H locs) {i : Nat} (hi : i < nR x) (hdg : decode cc pc = .ok (.getfield 92, 3)) (kk : W p l e R s m args below meth c H locs cells slots Q (F0 m (pc + 3) ls (.int (bI (rUn (gR x i))) :: rest))) : W p l e R s m args below meth c H locs cells slots Q (F0 m pc ls (.ref (aRq d i) :: rest)) := by
  obtain ⟨LL, f, hI, hP, hD, hS⟩ := hH
  have h := (show cI k d x LL f from hI).2.2.2.2.2.2.2 i hi
  exact pw_get hC.1 hC.2.1 hC.2.2.1 inX0 hC.2.2.2.1 hC.2.2.2.2.1 hP h.1 h.2 rfl 6 (by decide) (hC.2.2.1 _ wf_C_92) rfl hdg kk
theorem gC_R_redone (hC : cX D k p s m args c cc nL) (hH : cG D k d x A H0 H locs) {i : Nat} (hi : i < nR x) (hdg : decode cc pc = .ok (.getfield 177, 3)) (kk : W p l e R s m args below meth c H locs cells slots Q (F0 m (pc + 3) ls (.int (bI (rRe (gR x i))) :: rest))) : W p l e R s m args below meth c H locs cells slots Q (F0 m pc ls (.ref (aRq d i) :: rest)) := by
  obtain ⟨LL, f, hI, hP, hD, hS⟩ := hH
  have h := (show cI k d x LL f from hI).2.2.2.2.2.2.2 i hi
  exact pw_get hC.1 hC.2.1 hC.2.2.1 inX0 hC.2.2.2.1 hC.2.2.2.2.1 hP h.1 h.2 rfl 7 (by decide) (hC.2.2.1 _ wf_C_177) rfl hdg kk
theorem gC_R_result (hC : cX D k p s m args c cc nL) (hH : cG D k d x A H0 H locs) {i : Nat} (hi : i < nR x) (hdg : decode cc pc = .ok (.getfield 154, 3)) (kk : W p l e R s m args below meth c H locs cells slots Q (F0 m (pc + 3) ls (.long (rRs (gR x i)) :: rest))) : W p l e R s m args below meth c H locs cells slots Q (F0 m pc ls (.ref (aRq d i) :: rest)) := by
  obtain ⟨LL, f, hI, hP, hD, hS⟩ := hH
  have h := (show cI k d x LL f from hI).2.2.2.2.2.2.2 i hi
  exact pw_get hC.1 hC.2.1 hC.2.2.1 inX0 hC.2.2.2.1 hC.2.2.2.2.1 hP h.1 h.2 rfl 8 (by decide) (hC.2.2.1 _ wf_C_154) rfl hdg kk
theorem gC_R_worker (hC : cX D k p s m args c cc nL) (hH : cG D k d x A H0 H locs) {i : Nat} (hi : i < nR x) (hdg : decode cc pc = .ok (.getfield 150, 3)) (kk : W p l e R s m args below meth c H locs cells slots Q (F0 m (pc + 3) ls (va_rf ((rWk (gR x i)).map (aWo d)) :: rest))) : W p l e R s m args below meth c H locs cells slots Q (F0 m pc ls (.ref (aRq d i) :: rest)) := by
  obtain ⟨LL, f, hI, hP, hD, hS⟩ := hH
  have h := (show cI k d x LL f from hI).2.2.2.2.2.2.2 i hi
  exact pw_get hC.1 hC.2.1 hC.2.2.1 inX0 hC.2.2.2.1 hC.2.2.2.2.1 hP h.1 h.2 rfl 9 (by decide) (hC.2.2.1 _ wf_C_150) rfl hdg kk
theorem gC_R_place (hC : cX D k p s m args c cc nL) (hH : cG D k d x A H0 H locs) {i : Nat} (hi : i < nR x) (hdg : decode cc pc = .ok (.getfield 121, 3)) (kk : W p l e R s m args below meth c H locs cells slots Q (F0 m (pc + 3) ls (.int (rPl (gR x i)) :: rest))) : W p l e R s m args below meth c H locs cells slots Q (F0 m pc ls (.ref (aRq d i) :: rest)) := by
  obtain ⟨LL, f, hI, hP, hD, hS⟩ := hH
  have h := (show cI k d x LL f from hI).2.2.2.2.2.2.2 i hi
  exact pw_get hC.1 hC.2.1 hC.2.2.1 inX0 hC.2.2.2.1 hC.2.2.2.2.1 hP h.1 h.2 rfl 10 (by decide) (hC.2.2.1 _ wf_C_121) rfl hdg kk
theorem gC_C_most (hC : cX D k p s m args c cc nL) (hH : cG D k d x A H0 H locs) (hdg : decode cc pc = .ok (.getfield 31, 3)) (kk : W p l e R s m args below meth c H locs cells slots Q (F0 m (pc + 3) ls (.int (cMo x) :: rest))) : W p l e R s m args below meth c H locs cells slots Q (F0 m pc ls (.ref (kO k) :: rest)) := by
  obtain ⟨LL, f, hI, hP, hD, hS⟩ := hH
  have h := (show cI k d x LL f from hI).2.1
  exact pw_get hC.1 hC.2.1 hC.2.2.1 inX3 hC.2.2.2.1 hC.2.2.2.2.1 hP h.1 h.2 rfl 0 (by decide) (hC.2.2.1 _ wf_C_31) rfl hdg kk
theorem gC_C_bound (hC : cX D k p s m args c cc nL) (hH : cG D k d x A H0 H locs) (hdg : decode cc pc = .ok (.getfield 36, 3)) (kk : W p l e R s m args below meth c H locs cells slots Q (F0 m (pc + 3) ls (.int (cBo x) :: rest))) : W p l e R s m args below meth c H locs cells slots Q (F0 m pc ls (.ref (kO k) :: rest)) := by
  obtain ⟨LL, f, hI, hP, hD, hS⟩ := hH
  have h := (show cI k d x LL f from hI).2.1
  exact pw_get hC.1 hC.2.1 hC.2.2.1 inX3 hC.2.2.2.1 hC.2.2.2.2.1 hP h.1 h.2 rfl 1 (by decide) (hC.2.2.1 _ wf_C_36) rfl hdg kk
theorem gC_C_idle (hC : cX D k p s m args c cc nL) (hH : cG D k d x A H0 H locs) (hdg : decode cc pc = .ok (.getfield 39, 3)) (kk : W p l e R s m args below meth c H locs cells slots Q (F0 m (pc + 3) ls (.int (cId x) :: rest))) : W p l e R s m args below meth c H locs cells slots Q (F0 m pc ls (.ref (kO k) :: rest)) := by
  obtain ⟨LL, f, hI, hP, hD, hS⟩ := hH
  have h := (show cI k d x LL f from hI).2.1
  exact pw_get hC.1 hC.2.1 hC.2.2.1 inX3 hC.2.2.2.1 hC.2.2.2.2.1 hP h.1 h.2 rfl 2 (by decide) (hC.2.2.1 _ wf_C_39) rfl hdg kk
theorem gC_C_clock (hC : cX D k p s m args c cc nL) (hH : cG D k d x A H0 H locs) (hdg : decode cc pc = .ok (.getfield 131, 3)) (kk : W p l e R s m args below meth c H locs cells slots Q (F0 m (pc + 3) ls (.int (cCl x) :: rest))) : W p l e R s m args below meth c H locs cells slots Q (F0 m pc ls (.ref (kO k) :: rest)) := by
  obtain ⟨LL, f, hI, hP, hD, hS⟩ := hH
  have h := (show cI k d x LL f from hI).2.1
  exact pw_get hC.1 hC.2.1 hC.2.2.1 inX3 hC.2.2.2.1 hC.2.2.2.2.1 hP h.1 h.2 rfl 3 (by decide) (hC.2.2.1 _ wf_C_131) rfl hdg kk
theorem gC_C_tools (hC : cX D k p s m args c cc nL) (hH : cG D k d x A H0 H locs) (hdg : decode cc pc = .ok (.getfield 11, 3)) (kk : W p l e R s m args below meth c H locs cells slots Q (F0 m (pc + 3) ls (.ref (kTs k) :: rest))) : W p l e R s m args below meth c H locs cells slots Q (F0 m pc ls (.ref (kO k) :: rest)) := by
  obtain ⟨LL, f, hI, hP, hD, hS⟩ := hH
  have h := (show cI k d x LL f from hI).2.1
  exact pw_get hC.1 hC.2.1 hC.2.2.1 inX3 hC.2.2.2.1 hC.2.2.2.2.1 hP h.1 h.2 rfl 4 (by decide) (hC.2.2.1 _ wf_C_11) rfl hdg kk
theorem gC_C_workers (hC : cX D k p s m args c cc nL) (hH : cG D k d x A H0 H locs) (hdg : decode cc pc = .ok (.getfield 17, 3)) (kk : W p l e R s m args below meth c H locs cells slots Q (F0 m (pc + 3) ls (.ref (kWs k) :: rest))) : W p l e R s m args below meth c H locs cells slots Q (F0 m pc ls (.ref (kO k) :: rest)) := by
  obtain ⟨LL, f, hI, hP, hD, hS⟩ := hH
  have h := (show cI k d x LL f from hI).2.1
  exact pw_get hC.1 hC.2.1 hC.2.2.1 inX3 hC.2.2.2.1 hC.2.2.2.2.1 hP h.1 h.2 rfl 5 (by decide) (hC.2.2.1 _ wf_C_17) rfl hdg kk
theorem gC_C_requests (hC : cX D k p s m args c cc nL) (hH : cG D k d x A H0 H locs) (hdg : decode cc pc = .ok (.getfield 23, 3)) (kk : W p l e R s m args below meth c H locs cells slots Q (F0 m (pc + 3) ls (.ref (kRs k) :: rest))) : W p l e R s m args below meth c H locs cells slots Q (F0 m pc ls (.ref (kO k) :: rest)) := by
  obtain ⟨LL, f, hI, hP, hD, hS⟩ := hH
  have h := (show cI k d x LL f from hI).2.1
  exact pw_get hC.1 hC.2.1 hC.2.2.1 inX3 hC.2.2.2.1 hC.2.2.2.2.1 hP h.1 h.2 rfl 6 (by decide) (hC.2.2.1 _ wf_C_23) rfl hdg kk
theorem gC_C_toolCount (hC : cX D k p s m args c cc nL) (hH : cG D k d x A H0 H locs) (hdg : decode cc pc = .ok (.getfield 42, 3)) (kk : W p l e R s m args below meth c H locs cells slots Q (F0 m (pc + 3) ls (.int (nI (nT x)) :: rest))) : W p l e R s m args below meth c H locs cells slots Q (F0 m pc ls (.ref (kO k) :: rest)) := by
  obtain ⟨LL, f, hI, hP, hD, hS⟩ := hH
  have h := (show cI k d x LL f from hI).2.1
  exact pw_get hC.1 hC.2.1 hC.2.2.1 inX3 hC.2.2.2.1 hC.2.2.2.2.1 hP h.1 h.2 rfl 7 (by decide) (hC.2.2.1 _ wf_C_42) rfl hdg kk
theorem gC_C_workerCount (hC : cX D k p s m args c cc nL) (hH : cG D k d x A H0 H locs) (hdg : decode cc pc = .ok (.getfield 197, 3)) (kk : W p l e R s m args below meth c H locs cells slots Q (F0 m (pc + 3) ls (.int (nI (nW x)) :: rest))) : W p l e R s m args below meth c H locs cells slots Q (F0 m pc ls (.ref (kO k) :: rest)) := by
  obtain ⟨LL, f, hI, hP, hD, hS⟩ := hH
  have h := (show cI k d x LL f from hI).2.1
  exact pw_get hC.1 hC.2.1 hC.2.2.1 inX3 hC.2.2.2.1 hC.2.2.2.2.1 hP h.1 h.2 rfl 8 (by decide) (hC.2.2.1 _ wf_C_197) rfl hdg kk
theorem gC_C_requestCount (hC : cX D k p s m args c cc nL) (hH : cG D k d x A H0 H locs) (hdg : decode cc pc = .ok (.getfield 74, 3)) (kk : W p l e R s m args below meth c H locs cells slots Q (F0 m (pc + 3) ls (.int (nI (nR x)) :: rest))) : W p l e R s m args below meth c H locs cells slots Q (F0 m pc ls (.ref (kO k) :: rest)) := by
  obtain ⟨LL, f, hI, hP, hD, hS⟩ := hH
  have h := (show cI k d x LL f from hI).2.1
  exact pw_get hC.1 hC.2.1 hC.2.2.1 inX3 hC.2.2.2.1 hC.2.2.2.2.1 hP h.1 h.2 rfl 9 (by decide) (hC.2.2.1 _ wf_C_74) rfl hdg kk
theorem pC_T_edition (hC : cX D k p s m args c cc nL) (hH : cG D k d x A H0 H locs) {i : Nat} (hi : i < nT x) {v : Int64} (hdg : decode cc pc = .ok (.putfield 55, 3)) (kk : ∀ (H1 : Heap) (locs1 : List Loc), cG D k d (sT x i (tEd_ (gT x i) v)) A H0 H1 locs1 → W p l e R s m args below meth c H1 locs1 cells slots Q (F0 m (pc + 3) ls rest)) : W p l e R s m args below meth c H locs cells slots Q (F0 m pc ls (.long v :: .ref (aTo d i) :: rest)) := by
  obtain ⟨LL, f, hI, hP, hD, hS⟩ := hH
  have hI2 := (show cI k d x LL f from hI)
  have h := hI2.2.2.2.2.2.1 i hi
  exact pw_put hC.1 hC.2.1 hC.2.2.1 inX1 tyX1 tyX1_ok nmX1 hC.2.2.2.1 hC.2.2.2.2.1 hP hD hS h.1 h.2 rfl 1 (by decide) (hC.2.2.1 _ wf_C_55) rfl rfl rfl (Nat.le_of_ble_eq_true rfl) hdg (fun H1 locs1 h1 h2 h3 => kk H1 locs1 ⟨LL, _, hI2.setT hi (tEd_ (gT x i) v), h1, h2, h3⟩)
theorem pC_T_quirk (hC : cX D k p s m args c cc nL) (hH : cG D k d x A H0 H locs) {i : Nat} (hi : i < nT x) {v : Int32} (hdg : decode cc pc = .ok (.putfield 71, 3)) (kk : ∀ (H1 : Heap) (locs1 : List Loc), cG D k d (sT x i (tQu_ (gT x i) v)) A H0 H1 locs1 → W p l e R s m args below meth c H1 locs1 cells slots Q (F0 m (pc + 3) ls rest)) : W p l e R s m args below meth c H locs cells slots Q (F0 m pc ls (.int v :: .ref (aTo d i) :: rest)) := by
  obtain ⟨LL, f, hI, hP, hD, hS⟩ := hH
  have hI2 := (show cI k d x LL f from hI)
  have h := hI2.2.2.2.2.2.1 i hi
  exact pw_put hC.1 hC.2.1 hC.2.2.1 inX1 tyX1 tyX1_ok nmX1 hC.2.2.2.1 hC.2.2.2.2.1 hP hD hS h.1 h.2 rfl 2 (by decide) (hC.2.2.1 _ wf_C_71) rfl rfl rfl (Nat.le_of_ble_eq_true rfl) hdg (fun H1 locs1 h1 h2 h3 => kk H1 locs1 ⟨LL, _, hI2.setT hi (tQu_ (gT x i) v), h1, h2, h3⟩)
theorem pC_T_bars (hC : cX D k p s m args c cc nL) (hH : cG D k d x A H0 H locs) {i : Nat} (hi : i < nT x) {v : Int32} (hdg : decode cc pc = .ok (.putfield 170, 3)) (kk : ∀ (H1 : Heap) (locs1 : List Loc), cG D k d (sT x i (tBa_ (gT x i) v)) A H0 H1 locs1 → W p l e R s m args below meth c H1 locs1 cells slots Q (F0 m (pc + 3) ls rest)) : W p l e R s m args below meth c H locs cells slots Q (F0 m pc ls (.int v :: .ref (aTo d i) :: rest)) := by
  obtain ⟨LL, f, hI, hP, hD, hS⟩ := hH
  have hI2 := (show cI k d x LL f from hI)
  have h := hI2.2.2.2.2.2.1 i hi
  exact pw_put hC.1 hC.2.1 hC.2.2.1 inX1 tyX1 tyX1_ok nmX1 hC.2.2.2.1 hC.2.2.2.2.1 hP hD hS h.1 h.2 rfl 3 (by decide) (hC.2.2.1 _ wf_C_170) rfl rfl rfl (Nat.le_of_ble_eq_true rfl) hdg (fun H1 locs1 h1 h2 h3 => kk H1 locs1 ⟨LL, _, hI2.setT hi (tBa_ (gT x i) v), h1, h2, h3⟩)
theorem pC_W_finished (hC : cX D k p s m args c cc nL) (hH : cG D k d x A H0 H locs) {i : Nat} (hi : i < nW x) {v : Int32} (hdg : decode cc pc = .ok (.putfield 112, 3)) (kk : ∀ (H1 : Heap) (locs1 : List Loc), cG D k d (sW x i (wFi_ (gW x i) v)) A H0 H1 locs1 → W p l e R s m args below meth c H1 locs1 cells slots Q (F0 m (pc + 3) ls rest)) : W p l e R s m args below meth c H locs cells slots Q (F0 m pc ls (.int v :: .ref (aWo d i) :: rest)) := by
  obtain ⟨LL, f, hI, hP, hD, hS⟩ := hH
  have hI2 := (show cI k d x LL f from hI)
  have h := hI2.2.2.2.2.2.2.1 i hi
  exact pw_put hC.1 hC.2.1 hC.2.2.1 inX2 tyX2 tyX2_ok nmX2 hC.2.2.2.1 hC.2.2.2.2.1 hP hD hS h.1 h.2 rfl 3 (by decide) (hC.2.2.1 _ wf_C_112) rfl rfl rfl (Nat.le_of_ble_eq_true rfl) hdg (fun H1 locs1 h1 h2 h3 => kk H1 locs1 ⟨LL, _, hI2.setW hi (wFi_ (gW x i) v) ⟨(hI2.ok.2.1 i hi).1, (hI2.ok.2.1 i hi).2⟩, h1, h2, h3⟩)
theorem pC_W_trusted (hC : cX D k p s m args c cc nL) (hH : cG D k d x A H0 H locs) {i : Nat} (hi : i < nW x) {v : Int32} (hdg : decode cc pc = .ok (.putfield 157, 3)) (kk : ∀ (H1 : Heap) (locs1 : List Loc), cG D k d (sW x i (wTr_ (gW x i) v)) A H0 H1 locs1 → W p l e R s m args below meth c H1 locs1 cells slots Q (F0 m (pc + 3) ls rest)) : W p l e R s m args below meth c H locs cells slots Q (F0 m pc ls (.int v :: .ref (aWo d i) :: rest)) := by
  obtain ⟨LL, f, hI, hP, hD, hS⟩ := hH
  have hI2 := (show cI k d x LL f from hI)
  have h := hI2.2.2.2.2.2.2.1 i hi
  exact pw_put hC.1 hC.2.1 hC.2.2.1 inX2 tyX2 tyX2_ok nmX2 hC.2.2.2.1 hC.2.2.2.2.1 hP hD hS h.1 h.2 rfl 4 (by decide) (hC.2.2.1 _ wf_C_157) rfl rfl rfl (Nat.le_of_ble_eq_true rfl) hdg (fun H1 locs1 h1 h2 h3 => kk H1 locs1 ⟨LL, _, hI2.setW hi (wTr_ (gW x i) v) ⟨(hI2.ok.2.1 i hi).1, (hI2.ok.2.1 i hi).2⟩, h1, h2, h3⟩)
theorem pC_W_memory (hC : cX D k p s m args c cc nL) (hH : cG D k d x A H0 H locs) {i : Nat} (hi : i < nW x) {v : Int32} (hdg : decode cc pc = .ok (.putfield 115, 3)) (kk : ∀ (H1 : Heap) (locs1 : List Loc), cG D k d (sW x i (wMe_ (gW x i) v)) A H0 H1 locs1 → W p l e R s m args below meth c H1 locs1 cells slots Q (F0 m (pc + 3) ls rest)) : W p l e R s m args below meth c H locs cells slots Q (F0 m pc ls (.int v :: .ref (aWo d i) :: rest)) := by
  obtain ⟨LL, f, hI, hP, hD, hS⟩ := hH
  have hI2 := (show cI k d x LL f from hI)
  have h := hI2.2.2.2.2.2.2.1 i hi
  exact pw_put hC.1 hC.2.1 hC.2.2.1 inX2 tyX2 tyX2_ok nmX2 hC.2.2.2.1 hC.2.2.2.2.1 hP hD hS h.1 h.2 rfl 5 (by decide) (hC.2.2.1 _ wf_C_115) rfl rfl rfl (Nat.le_of_ble_eq_true rfl) hdg (fun H1 locs1 h1 h2 h3 => kk H1 locs1 ⟨LL, _, hI2.setW hi (wMe_ (gW x i) v) ⟨(hI2.ok.2.1 i hi).1, (hI2.ok.2.1 i hi).2⟩, h1, h2, h3⟩)
theorem pC_W_freeSince (hC : cX D k p s m args c cc nL) (hH : cG D k d x A H0 H locs) {i : Nat} (hi : i < nW x) {v : Int32} (hdg : decode cc pc = .ok (.putfield 134, 3)) (kk : ∀ (H1 : Heap) (locs1 : List Loc), cG D k d (sW x i (wFr_ (gW x i) v)) A H0 H1 locs1 → W p l e R s m args below meth c H1 locs1 cells slots Q (F0 m (pc + 3) ls rest)) : W p l e R s m args below meth c H locs cells slots Q (F0 m pc ls (.int v :: .ref (aWo d i) :: rest)) := by
  obtain ⟨LL, f, hI, hP, hD, hS⟩ := hH
  have hI2 := (show cI k d x LL f from hI)
  have h := hI2.2.2.2.2.2.2.1 i hi
  exact pw_put hC.1 hC.2.1 hC.2.2.1 inX2 tyX2 tyX2_ok nmX2 hC.2.2.2.1 hC.2.2.2.2.1 hP hD hS h.1 h.2 rfl 6 (by decide) (hC.2.2.1 _ wf_C_134) rfl rfl rfl (Nat.le_of_ble_eq_true rfl) hdg (fun H1 locs1 h1 h2 h3 => kk H1 locs1 ⟨LL, _, hI2.setW hi (wFr_ (gW x i) v) ⟨(hI2.ok.2.1 i hi).1, (hI2.ok.2.1 i hi).2⟩, h1, h2, h3⟩)
theorem pC_W_endedBy (hC : cX D k p s m args c cc nL) (hH : cG D k d x A H0 H locs) {i : Nat} (hi : i < nW x) {v : Int32} (hdg : decode cc pc = .ok (.putfield 128, 3)) (kk : ∀ (H1 : Heap) (locs1 : List Loc), cG D k d (sW x i (wEn_ (gW x i) v)) A H0 H1 locs1 → W p l e R s m args below meth c H1 locs1 cells slots Q (F0 m (pc + 3) ls rest)) : W p l e R s m args below meth c H locs cells slots Q (F0 m pc ls (.int v :: .ref (aWo d i) :: rest)) := by
  obtain ⟨LL, f, hI, hP, hD, hS⟩ := hH
  have hI2 := (show cI k d x LL f from hI)
  have h := hI2.2.2.2.2.2.2.1 i hi
  exact pw_put hC.1 hC.2.1 hC.2.2.1 inX2 tyX2 tyX2_ok nmX2 hC.2.2.2.1 hC.2.2.2.2.1 hP hD hS h.1 h.2 rfl 7 (by decide) (hC.2.2.1 _ wf_C_128) rfl rfl rfl (Nat.le_of_ble_eq_true rfl) hdg (fun H1 locs1 h1 h2 h3 => kk H1 locs1 ⟨LL, _, hI2.setW hi (wEn_ (gW x i) v) ⟨(hI2.ok.2.1 i hi).1, (hI2.ok.2.1 i hi).2⟩, h1, h2, h3⟩)
theorem pC_W_requestN (hC : cX D k p s m args c cc nL) (hH : cG D k d x A H0 H locs) {i : Nat} (hi : i < nW x)  (hdg : decode cc pc = .ok (.putfield 104, 3)) (kk : ∀ (H1 : Heap) (locs1 : List Loc), cG D k d (sW x i (wRq_ (gW x i) none)) A H0 H1 locs1 → W p l e R s m args below meth c H1 locs1 cells slots Q (F0 m (pc + 3) ls rest)) : W p l e R s m args below meth c H locs cells slots Q (F0 m pc ls (.null :: .ref (aWo d i) :: rest)) := by
  obtain ⟨LL, f, hI, hP, hD, hS⟩ := hH
  have hI2 := (show cI k d x LL f from hI)
  have h := hI2.2.2.2.2.2.2.1 i hi
  exact pw_put hC.1 hC.2.1 hC.2.2.1 inX2 tyX2 tyX2_ok nmX2 hC.2.2.2.1 hC.2.2.2.2.1 hP hD hS h.1 h.2 rfl 8 (by decide) (hC.2.2.1 _ wf_C_104) rfl rfl rfl (Nat.le_of_ble_eq_true rfl) hdg (fun H1 locs1 h1 h2 h3 => kk H1 locs1 ⟨LL, _, hI2.setW hi (wRq_ (gW x i) none) ⟨(hI2.ok.2.1 i hi).1, fun _ q => by cases q⟩, h1, h2, h3⟩)
theorem pC_W_requestR (hC : cX D k p s m args c cc nL) (hH : cG D k d x A H0 H locs) {i : Nat} (hi : i < nW x) {j : Nat} (hj : j < nR x) (hdg : decode cc pc = .ok (.putfield 104, 3)) (kk : ∀ (H1 : Heap) (locs1 : List Loc), cG D k d (sW x i (wRq_ (gW x i) (some j))) A H0 H1 locs1 → W p l e R s m args below meth c H1 locs1 cells slots Q (F0 m (pc + 3) ls rest)) : W p l e R s m args below meth c H locs cells slots Q (F0 m pc ls (.ref (aRq d j) :: .ref (aWo d i) :: rest)) := by
  obtain ⟨LL, f, hI, hP, hD, hS⟩ := hH
  have hI2 := (show cI k d x LL f from hI)
  have h := hI2.2.2.2.2.2.2.1 i hi
  exact pw_put hC.1 hC.2.1 hC.2.2.1 inX2 tyX2 tyX2_ok nmX2 hC.2.2.2.1 hC.2.2.2.2.1 hP hD hS h.1 h.2 rfl 8 (by decide) (hC.2.2.1 _ wf_C_104) rfl rfl rfl (Nat.le_of_ble_eq_true rfl) hdg (fun H1 locs1 h1 h2 h3 => kk H1 locs1 ⟨LL, _, hI2.setW hi (wRq_ (gW x i) (some j)) ⟨(hI2.ok.2.1 i hi).1, fun _ q => by cases q; exact hj⟩, h1, h2, h3⟩)
theorem pC_R_state (hC : cX D k p s m args c cc nL) (hH : cG D k d x A H0 H locs) {i : Nat} (hi : i < nR x) {v : Int32} (hdg : decode cc pc = .ok (.putfield 85, 3)) (kk : ∀ (H1 : Heap) (locs1 : List Loc), cG D k d (sR x i (rSt_ (gR x i) v)) A H0 H1 locs1 → W p l e R s m args below meth c H1 locs1 cells slots Q (F0 m (pc + 3) ls rest)) : W p l e R s m args below meth c H locs cells slots Q (F0 m pc ls (.int v :: .ref (aRq d i) :: rest)) := by
  obtain ⟨LL, f, hI, hP, hD, hS⟩ := hH
  have hI2 := (show cI k d x LL f from hI)
  have h := hI2.2.2.2.2.2.2.2 i hi
  exact pw_put hC.1 hC.2.1 hC.2.2.1 inX0 tyX0 tyX0_ok nmX0 hC.2.2.2.1 hC.2.2.2.2.1 hP hD hS h.1 h.2 rfl 4 (by decide) (hC.2.2.1 _ wf_C_85) rfl rfl rfl (Nat.le_of_ble_eq_true rfl) hdg (fun H1 locs1 h1 h2 h3 => kk H1 locs1 ⟨LL, _, hI2.setR hi (rSt_ (gR x i) v) ⟨(hI2.ok.2.2 i hi).1, (hI2.ok.2.2 i hi).2⟩, h1, h2, h3⟩)
theorem pC_R_begun (hC : cX D k p s m args c cc nL) (hH : cG D k d x A H0 H locs) {i : Nat} (hi : i < nR x) {v : Int32} (hdg : decode cc pc = .ok (.putfield 174, 3)) (kk : ∀ (H1 : Heap) (locs1 : List Loc), cG D k d (sR x i (rBe_ (gR x i) v)) A H0 H1 locs1 → W p l e R s m args below meth c H1 locs1 cells slots Q (F0 m (pc + 3) ls rest)) : W p l e R s m args below meth c H locs cells slots Q (F0 m pc ls (.int v :: .ref (aRq d i) :: rest)) := by
  obtain ⟨LL, f, hI, hP, hD, hS⟩ := hH
  have hI2 := (show cI k d x LL f from hI)
  have h := hI2.2.2.2.2.2.2.2 i hi
  exact pw_put hC.1 hC.2.1 hC.2.2.1 inX0 tyX0 tyX0_ok nmX0 hC.2.2.2.1 hC.2.2.2.2.1 hP hD hS h.1 h.2 rfl 5 (by decide) (hC.2.2.1 _ wf_C_174) rfl rfl rfl (Nat.le_of_ble_eq_true rfl) hdg (fun H1 locs1 h1 h2 h3 => kk H1 locs1 ⟨LL, _, hI2.setR hi (rBe_ (gR x i) v) ⟨(hI2.ok.2.2 i hi).1, (hI2.ok.2.2 i hi).2⟩, h1, h2, h3⟩)
theorem pC_R_result (hC : cX D k p s m args c cc nL) (hH : cG D k d x A H0 H locs) {i : Nat} (hi : i < nR x) {v : Int64} (hdg : decode cc pc = .ok (.putfield 154, 3)) (kk : ∀ (H1 : Heap) (locs1 : List Loc), cG D k d (sR x i (rRs_ (gR x i) v)) A H0 H1 locs1 → W p l e R s m args below meth c H1 locs1 cells slots Q (F0 m (pc + 3) ls rest)) : W p l e R s m args below meth c H locs cells slots Q (F0 m pc ls (.long v :: .ref (aRq d i) :: rest)) := by
  obtain ⟨LL, f, hI, hP, hD, hS⟩ := hH
  have hI2 := (show cI k d x LL f from hI)
  have h := hI2.2.2.2.2.2.2.2 i hi
  exact pw_put hC.1 hC.2.1 hC.2.2.1 inX0 tyX0 tyX0_ok nmX0 hC.2.2.2.1 hC.2.2.2.2.1 hP hD hS h.1 h.2 rfl 8 (by decide) (hC.2.2.1 _ wf_C_154) rfl rfl rfl (Nat.le_of_ble_eq_true rfl) hdg (fun H1 locs1 h1 h2 h3 => kk H1 locs1 ⟨LL, _, hI2.setR hi (rRs_ (gR x i) v) ⟨(hI2.ok.2.2 i hi).1, (hI2.ok.2.2 i hi).2⟩, h1, h2, h3⟩)
theorem pC_R_place (hC : cX D k p s m args c cc nL) (hH : cG D k d x A H0 H locs) {i : Nat} (hi : i < nR x) {v : Int32} (hdg : decode cc pc = .ok (.putfield 121, 3)) (kk : ∀ (H1 : Heap) (locs1 : List Loc), cG D k d (sR x i (rPl_ (gR x i) v)) A H0 H1 locs1 → W p l e R s m args below meth c H1 locs1 cells slots Q (F0 m (pc + 3) ls rest)) : W p l e R s m args below meth c H locs cells slots Q (F0 m pc ls (.int v :: .ref (aRq d i) :: rest)) := by
  obtain ⟨LL, f, hI, hP, hD, hS⟩ := hH
  have hI2 := (show cI k d x LL f from hI)
  have h := hI2.2.2.2.2.2.2.2 i hi
  exact pw_put hC.1 hC.2.1 hC.2.2.1 inX0 tyX0 tyX0_ok nmX0 hC.2.2.2.1 hC.2.2.2.2.1 hP hD hS h.1 h.2 rfl 10 (by decide) (hC.2.2.1 _ wf_C_121) rfl rfl rfl (Nat.le_of_ble_eq_true rfl) hdg (fun H1 locs1 h1 h2 h3 => kk H1 locs1 ⟨LL, _, hI2.setR hi (rPl_ (gR x i) v) ⟨(hI2.ok.2.2 i hi).1, (hI2.ok.2.2 i hi).2⟩, h1, h2, h3⟩)
theorem pC_R_unwanted0 (hC : cX D k p s m args c cc nL) (hH : cG D k d x A H0 H locs) {i : Nat} (hi : i < nR x)  (hdg : decode cc pc = .ok (.putfield 92, 3)) (kk : ∀ (H1 : Heap) (locs1 : List Loc), cG D k d (sR x i (rUn_ (gR x i) false)) A H0 H1 locs1 → W p l e R s m args below meth c H1 locs1 cells slots Q (F0 m (pc + 3) ls rest)) : W p l e R s m args below meth c H locs cells slots Q (F0 m pc ls (.int 0 :: .ref (aRq d i) :: rest)) := by
  obtain ⟨LL, f, hI, hP, hD, hS⟩ := hH
  have hI2 := (show cI k d x LL f from hI)
  have h := hI2.2.2.2.2.2.2.2 i hi
  exact pw_put hC.1 hC.2.1 hC.2.2.1 inX0 tyX0 tyX0_ok nmX0 hC.2.2.2.1 hC.2.2.2.2.1 hP hD hS h.1 h.2 rfl 6 (by decide) (hC.2.2.1 _ wf_C_92) rfl rfl rfl (Nat.le_of_ble_eq_true rfl) hdg (fun H1 locs1 h1 h2 h3 => kk H1 locs1 ⟨LL, _, hI2.setR hi (rUn_ (gR x i) false) ⟨(hI2.ok.2.2 i hi).1, (hI2.ok.2.2 i hi).2⟩, h1, h2, h3⟩)
theorem pC_R_unwanted1 (hC : cX D k p s m args c cc nL) (hH : cG D k d x A H0 H locs) {i : Nat} (hi : i < nR x)  (hdg : decode cc pc = .ok (.putfield 92, 3)) (kk : ∀ (H1 : Heap) (locs1 : List Loc), cG D k d (sR x i (rUn_ (gR x i) true)) A H0 H1 locs1 → W p l e R s m args below meth c H1 locs1 cells slots Q (F0 m (pc + 3) ls rest)) : W p l e R s m args below meth c H locs cells slots Q (F0 m pc ls (.int 1 :: .ref (aRq d i) :: rest)) := by
  obtain ⟨LL, f, hI, hP, hD, hS⟩ := hH
  have hI2 := (show cI k d x LL f from hI)
  have h := hI2.2.2.2.2.2.2.2 i hi
  exact pw_put hC.1 hC.2.1 hC.2.2.1 inX0 tyX0 tyX0_ok nmX0 hC.2.2.2.1 hC.2.2.2.2.1 hP hD hS h.1 h.2 rfl 6 (by decide) (hC.2.2.1 _ wf_C_92) rfl rfl rfl (Nat.le_of_ble_eq_true rfl) hdg (fun H1 locs1 h1 h2 h3 => kk H1 locs1 ⟨LL, _, hI2.setR hi (rUn_ (gR x i) true) ⟨(hI2.ok.2.2 i hi).1, (hI2.ok.2.2 i hi).2⟩, h1, h2, h3⟩)
theorem pC_R_redone1 (hC : cX D k p s m args c cc nL) (hH : cG D k d x A H0 H locs) {i : Nat} (hi : i < nR x)  (hdg : decode cc pc = .ok (.putfield 177, 3)) (kk : ∀ (H1 : Heap) (locs1 : List Loc), cG D k d (sR x i (rRe_ (gR x i) true)) A H0 H1 locs1 → W p l e R s m args below meth c H1 locs1 cells slots Q (F0 m (pc + 3) ls rest)) : W p l e R s m args below meth c H locs cells slots Q (F0 m pc ls (.int 1 :: .ref (aRq d i) :: rest)) := by
  obtain ⟨LL, f, hI, hP, hD, hS⟩ := hH
  have hI2 := (show cI k d x LL f from hI)
  have h := hI2.2.2.2.2.2.2.2 i hi
  exact pw_put hC.1 hC.2.1 hC.2.2.1 inX0 tyX0 tyX0_ok nmX0 hC.2.2.2.1 hC.2.2.2.2.1 hP hD hS h.1 h.2 rfl 7 (by decide) (hC.2.2.1 _ wf_C_177) rfl rfl rfl (Nat.le_of_ble_eq_true rfl) hdg (fun H1 locs1 h1 h2 h3 => kk H1 locs1 ⟨LL, _, hI2.setR hi (rRe_ (gR x i) true) ⟨(hI2.ok.2.2 i hi).1, (hI2.ok.2.2 i hi).2⟩, h1, h2, h3⟩)
theorem pC_R_workerN (hC : cX D k p s m args c cc nL) (hH : cG D k d x A H0 H locs) {i : Nat} (hi : i < nR x)  (hdg : decode cc pc = .ok (.putfield 150, 3)) (kk : ∀ (H1 : Heap) (locs1 : List Loc), cG D k d (sR x i (rWk_ (gR x i) none)) A H0 H1 locs1 → W p l e R s m args below meth c H1 locs1 cells slots Q (F0 m (pc + 3) ls rest)) : W p l e R s m args below meth c H locs cells slots Q (F0 m pc ls (.null :: .ref (aRq d i) :: rest)) := by
  obtain ⟨LL, f, hI, hP, hD, hS⟩ := hH
  have hI2 := (show cI k d x LL f from hI)
  have h := hI2.2.2.2.2.2.2.2 i hi
  exact pw_put hC.1 hC.2.1 hC.2.2.1 inX0 tyX0 tyX0_ok nmX0 hC.2.2.2.1 hC.2.2.2.2.1 hP hD hS h.1 h.2 rfl 9 (by decide) (hC.2.2.1 _ wf_C_150) rfl rfl rfl (Nat.le_of_ble_eq_true rfl) hdg (fun H1 locs1 h1 h2 h3 => kk H1 locs1 ⟨LL, _, hI2.setR hi (rWk_ (gR x i) none) ⟨(hI2.ok.2.2 i hi).1, fun _ q => by cases q⟩, h1, h2, h3⟩)
theorem pC_R_workerR (hC : cX D k p s m args c cc nL) (hH : cG D k d x A H0 H locs) {i : Nat} (hi : i < nR x) {j : Nat} (hj : j < nW x) (hdg : decode cc pc = .ok (.putfield 150, 3)) (kk : ∀ (H1 : Heap) (locs1 : List Loc), cG D k d (sR x i (rWk_ (gR x i) (some j))) A H0 H1 locs1 → W p l e R s m args below meth c H1 locs1 cells slots Q (F0 m (pc + 3) ls rest)) : W p l e R s m args below meth c H locs cells slots Q (F0 m pc ls (.ref (aWo d j) :: .ref (aRq d i) :: rest)) := by
  obtain ⟨LL, f, hI, hP, hD, hS⟩ := hH
  have hI2 := (show cI k d x LL f from hI)
  have h := hI2.2.2.2.2.2.2.2 i hi
  exact pw_put hC.1 hC.2.1 hC.2.2.1 inX0 tyX0 tyX0_ok nmX0 hC.2.2.2.1 hC.2.2.2.2.1 hP hD hS h.1 h.2 rfl 9 (by decide) (hC.2.2.1 _ wf_C_150) rfl rfl rfl (Nat.le_of_ble_eq_true rfl) hdg (fun H1 locs1 h1 h2 h3 => kk H1 locs1 ⟨LL, _, hI2.setR hi (rWk_ (gR x i) (some j)) ⟨(hI2.ok.2.2 i hi).1, fun _ q => by cases q; exact hj⟩, h1, h2, h3⟩)
theorem pC_C_clock (hC : cX D k p s m args c cc nL) (hH : cG D k d x A H0 H locs) {v : Int32} (hdg : decode cc pc = .ok (.putfield 131, 3)) (kk : ∀ (H1 : Heap) (locs1 : List Loc), cG D k d (sCl x v) A H0 H1 locs1 → W p l e R s m args below meth c H1 locs1 cells slots Q (F0 m (pc + 3) ls rest)) : W p l e R s m args below meth c H locs cells slots Q (F0 m pc ls (.int v :: .ref (kO k) :: rest)) := by
  obtain ⟨LL, f, hI, hP, hD, hS⟩ := hH
  have hI2 := (show cI k d x LL f from hI)
  have h := hI2.2.1
  exact pw_put hC.1 hC.2.1 hC.2.2.1 inX3 tyX3 tyX3_ok nmX3 hC.2.2.2.1 hC.2.2.2.2.1 hP hD hS h.1 h.2 rfl 3 (by decide) (hC.2.2.1 _ wf_C_131) rfl rfl rfl (Nat.le_of_ble_eq_true rfl) hdg (fun H1 locs1 h1 h2 h3 => kk H1 locs1 ⟨LL, _, hI2.setCl v, h1, h2, h3⟩)
theorem lC_T (hC : cX D k p s m args c cc nL) (hH : cG D k d x A H0 H locs) (hdg : decode cc pc = .ok (.arraylength, 1)) (kk : W p l e R s m args below meth c H locs cells slots Q (F0 m (pc + 1) ls (.int 6 :: rest))) : W p l e R s m args below meth c H locs cells slots Q (F0 m pc ls (.ref (kTs k) :: rest)) := by
  obtain ⟨LL, f, hI, hP, hD, hS⟩ := hH
  have hI2 := (show cI k d x LL f from hI)
  have h := hI2.2.2.1
  exact pw_alen hC.1 hC.2.1 hC.2.2.2.2.1 hP 0 h.1 h.2 rfl rfl hdg kk
theorem aC_T (hC : cX D k p s m args c cc nL) (hH : cG D k d x A H0 H locs) {i : Nat} (hi : i < nT x) {v : Int32} (hv : v = nI i) (hdg : decode cc pc = .ok (.aaload, 1)) (kk : W p l e R s m args below meth c H locs cells slots Q (F0 m (pc + 1) ls (.ref (aTo d i) :: rest))) : W p l e R s m args below meth c H locs cells slots Q (F0 m pc ls (.int v :: .ref (kTs k) :: rest)) := by
  obtain ⟨LL, f, hI, hP, hD, hS⟩ := hH
  have hI2 := (show cI k d x LL f from hI)
  have h := hI2.2.2.1
  subst hv
  have hl : i < 6 := Nat.lt_of_lt_of_le hi (by first | exact hI2.1.1.1 | exact hI2.1.1.2.1 | exact hI2.1.1.2.2)
  refine pw_aldq hC.1 hC.2.1 hC.2.2.2.2.1 hP 0 h.1 h.2 rfl (vp_in_nI hl (by decide)) hdg ?_
  rw [nI_clamp (by omega), eA_in hi]
  exact kk
theorem aC_TN (hC : cX D k p s m args c cc nL) (hH : cG D k d x A H0 H locs) {i : Nat} (hi : ¬ i < nT x) (hl : i < 6) {v : Int32} (hv : v = nI i) (hdg : decode cc pc = .ok (.aaload, 1)) (kk : W p l e R s m args below meth c H locs cells slots Q (F0 m (pc + 1) ls (.null :: rest))) : W p l e R s m args below meth c H locs cells slots Q (F0 m pc ls (.int v :: .ref (kTs k) :: rest)) := by
  obtain ⟨LL, f, hI, hP, hD, hS⟩ := hH
  have hI2 := (show cI k d x LL f from hI)
  have h := hI2.2.2.1
  subst hv
  refine pw_aldq hC.1 hC.2.1 hC.2.2.2.2.1 hP 0 h.1 h.2 rfl (vp_in_nI hl (by decide)) hdg ?_
  rw [nI_clamp (by omega), eA_out hi]
  exact kk
theorem lC_W (hC : cX D k p s m args c cc nL) (hH : cG D k d x A H0 H locs) (hdg : decode cc pc = .ok (.arraylength, 1)) (kk : W p l e R s m args below meth c H locs cells slots Q (F0 m (pc + 1) ls (.int 60 :: rest))) : W p l e R s m args below meth c H locs cells slots Q (F0 m pc ls (.ref (kWs k) :: rest)) := by
  obtain ⟨LL, f, hI, hP, hD, hS⟩ := hH
  have hI2 := (show cI k d x LL f from hI)
  have h := hI2.2.2.2.1
  exact pw_alen hC.1 hC.2.1 hC.2.2.2.2.1 hP 1 h.1 h.2 rfl rfl hdg kk
theorem aC_W (hC : cX D k p s m args c cc nL) (hH : cG D k d x A H0 H locs) {i : Nat} (hi : i < nW x) {v : Int32} (hv : v = nI i) (hdg : decode cc pc = .ok (.aaload, 1)) (kk : W p l e R s m args below meth c H locs cells slots Q (F0 m (pc + 1) ls (.ref (aWo d i) :: rest))) : W p l e R s m args below meth c H locs cells slots Q (F0 m pc ls (.int v :: .ref (kWs k) :: rest)) := by
  obtain ⟨LL, f, hI, hP, hD, hS⟩ := hH
  have hI2 := (show cI k d x LL f from hI)
  have h := hI2.2.2.2.1
  subst hv
  have hl : i < 60 := Nat.lt_of_lt_of_le hi (by first | exact hI2.1.1.1 | exact hI2.1.1.2.1 | exact hI2.1.1.2.2)
  refine pw_aldq hC.1 hC.2.1 hC.2.2.2.2.1 hP 1 h.1 h.2 rfl (vp_in_nI hl (by decide)) hdg ?_
  rw [nI_clamp (by omega), eA_in hi]
  exact kk
theorem aC_WN (hC : cX D k p s m args c cc nL) (hH : cG D k d x A H0 H locs) {i : Nat} (hi : ¬ i < nW x) (hl : i < 60) {v : Int32} (hv : v = nI i) (hdg : decode cc pc = .ok (.aaload, 1)) (kk : W p l e R s m args below meth c H locs cells slots Q (F0 m (pc + 1) ls (.null :: rest))) : W p l e R s m args below meth c H locs cells slots Q (F0 m pc ls (.int v :: .ref (kWs k) :: rest)) := by
  obtain ⟨LL, f, hI, hP, hD, hS⟩ := hH
  have hI2 := (show cI k d x LL f from hI)
  have h := hI2.2.2.2.1
  subst hv
  refine pw_aldq hC.1 hC.2.1 hC.2.2.2.2.1 hP 1 h.1 h.2 rfl (vp_in_nI hl (by decide)) hdg ?_
  rw [nI_clamp (by omega), eA_out hi]
  exact kk
theorem lC_R (hC : cX D k p s m args c cc nL) (hH : cG D k d x A H0 H locs) (hdg : decode cc pc = .ok (.arraylength, 1)) (kk : W p l e R s m args below meth c H locs cells slots Q (F0 m (pc + 1) ls (.int 100 :: rest))) : W p l e R s m args below meth c H locs cells slots Q (F0 m pc ls (.ref (kRs k) :: rest)) := by
  obtain ⟨LL, f, hI, hP, hD, hS⟩ := hH
  have hI2 := (show cI k d x LL f from hI)
  have h := hI2.2.2.2.2.1
  exact pw_alen hC.1 hC.2.1 hC.2.2.2.2.1 hP 2 h.1 h.2 rfl rfl hdg kk
theorem aC_R (hC : cX D k p s m args c cc nL) (hH : cG D k d x A H0 H locs) {i : Nat} (hi : i < nR x) {v : Int32} (hv : v = nI i) (hdg : decode cc pc = .ok (.aaload, 1)) (kk : W p l e R s m args below meth c H locs cells slots Q (F0 m (pc + 1) ls (.ref (aRq d i) :: rest))) : W p l e R s m args below meth c H locs cells slots Q (F0 m pc ls (.int v :: .ref (kRs k) :: rest)) := by
  obtain ⟨LL, f, hI, hP, hD, hS⟩ := hH
  have hI2 := (show cI k d x LL f from hI)
  have h := hI2.2.2.2.2.1
  subst hv
  have hl : i < 100 := Nat.lt_of_lt_of_le hi (by first | exact hI2.1.1.1 | exact hI2.1.1.2.1 | exact hI2.1.1.2.2)
  refine pw_aldq hC.1 hC.2.1 hC.2.2.2.2.1 hP 2 h.1 h.2 rfl (vp_in_nI hl (by decide)) hdg ?_
  rw [nI_clamp (by omega), eA_in hi]
  exact kk
theorem aC_RN (hC : cX D k p s m args c cc nL) (hH : cG D k d x A H0 H locs) {i : Nat} (hi : ¬ i < nR x) (hl : i < 100) {v : Int32} (hv : v = nI i) (hdg : decode cc pc = .ok (.aaload, 1)) (kk : W p l e R s m args below meth c H locs cells slots Q (F0 m (pc + 1) ls (.null :: rest))) : W p l e R s m args below meth c H locs cells slots Q (F0 m pc ls (.int v :: .ref (kRs k) :: rest)) := by
  obtain ⟨LL, f, hI, hP, hD, hS⟩ := hH
  have hI2 := (show cI k d x LL f from hI)
  have h := hI2.2.2.2.2.1
  subst hv
  refine pw_aldq hC.1 hC.2.1 hC.2.2.2.2.1 hP 2 h.1 h.2 rfl (vp_in_nI hl (by decide)) hdg ?_
  rw [nI_clamp (by omega), eA_out hi]
  exact kk
end CR
theorem kL_15 : gKI RL 15 yC_init bC_init 4 3 := ⟨⟨wc_C_init, wn_C, wm_L_15, by decide +kernel, by decide +kernel, by decide +kernel⟩, by decide +kernel, wi_C_init⟩
theorem kC_27 : gKS RX3 27 yC_nearest bC_nearest 3 (some .int) 3 := ⟨⟨wc_C_nearest, wn_C, wm_C_27, by decide +kernel, by decide +kernel, by decide +kernel⟩, ws_C_nearest⟩
theorem kL_23 : gKV RL 23 yC_tool bC_tool 5 (some .int) 2 := ⟨⟨wc_C_tool, wn_C, wm_L_23, by decide +kernel, by decide +kernel, by decide +kernel⟩, wi_C_tool, wv_C_tool⟩
theorem kC_45 : gKI RX3 45 yT_init bT_init 5 3 := ⟨⟨wc_T_init, wn_T, wm_C_45, by decide +kernel, by decide +kernel, by decide +kernel⟩, by decide +kernel, wi_T_init⟩
theorem kL_28 : gKV RL 28 yC_edition bC_edition 10 (some .int) 2 := ⟨⟨wc_C_edition, wn_C, wm_L_28, by decide +kernel, by decide +kernel, by decide +kernel⟩, wi_C_edition, wv_C_edition⟩
theorem kC_51 : gKV RX3 51 yC_toolAt bC_toolAt 2 (some (.object "WorkerRows$Tool")) 1 := ⟨⟨wc_C_toolAt, wn_C, wm_C_51, by decide +kernel, by decide +kernel, by decide +kernel⟩, wi_C_toolAt, wv_C_toolAt⟩
theorem kC_63 : gKS RX3 63 yC_isEnded bC_isEnded 1 (some .boolean) 1 := ⟨⟨wc_C_isEnded, wn_C, wm_C_63, by decide +kernel, by decide +kernel, by decide +kernel⟩, ws_C_isEnded⟩
theorem kC_67 : gKS RX3 67 yC_endAndRequeue bC_endAndRequeue 3 none 2 := ⟨⟨wc_C_endAndRequeue, wn_C, wm_C_67, by decide +kernel, by decide +kernel, by decide +kernel⟩, ws_C_endAndRequeue⟩
theorem kC_207 : gKS RX3 207 yC_waitAgain bC_waitAgain 1 none 1 := ⟨⟨wc_C_waitAgain, wn_C, wm_C_207, by decide +kernel, by decide +kernel, by decide +kernel⟩, ws_C_waitAgain⟩
theorem kC_88 : gKS RX3 88 yC_becomeCancelled bC_becomeCancelled 1 none 1 := ⟨⟨wc_C_becomeCancelled, wn_C, wm_C_88, by decide +kernel, by decide +kernel, by decide +kernel⟩, ws_C_becomeCancelled⟩
theorem kL_33 : gKV RL 33 yC_quirk bC_quirk 4 (some .boolean) 2 := ⟨⟨wc_C_quirk, wn_C, wm_L_33, by decide +kernel, by decide +kernel, by decide +kernel⟩, wi_C_quirk, wv_C_quirk⟩
theorem kL_38 : gKV RL 38 yC_request bC_request 7 (some .int) 3 := ⟨⟨wc_C_request, wn_C, wm_L_38, by decide +kernel, by decide +kernel, by decide +kernel⟩, wi_C_request, wv_C_request⟩
theorem kC_77 : gKI RX3 77 yR_init bR_init 6 4 := ⟨⟨wc_R_init, wn_R, wm_C_77, by decide +kernel, by decide +kernel, by decide +kernel⟩, by decide +kernel, wi_R_init⟩
theorem kL_43 : gKV RL 43 yC_cancel bC_cancel 3 (some .int) 1 := ⟨⟨wc_C_cancel, wn_C, wm_L_43, by decide +kernel, by decide +kernel, by decide +kernel⟩, wi_C_cancel, wv_C_cancel⟩
theorem kC_81 : gKV RX3 81 yC_requestAt bC_requestAt 2 (some (.object "WorkerRows$Request")) 1 := ⟨⟨wc_C_requestAt, wn_C, wm_C_81, by decide +kernel, by decide +kernel, by decide +kernel⟩, wi_C_requestAt, wv_C_requestAt⟩
theorem kL_48 : gKV RL 48 yC_step bC_step 6 (some .int) 0 := ⟨⟨wc_C_step, wn_C, wm_L_48, by decide +kernel, by decide +kernel, by decide +kernel⟩, wi_C_step, wv_C_step⟩
theorem kC_96 : gKV RX3 96 yC_moveOn bC_moveOn 4 (some .boolean) 1 := ⟨⟨wc_C_moveOn, wn_C, wm_C_96, by decide +kernel, by decide +kernel, by decide +kernel⟩, wi_C_moveOn, wv_C_moveOn⟩
theorem kC_141 : gKS RX3 141 yC_freshRun bC_freshRun 7 (some .long) 2 := ⟨⟨wc_C_freshRun, wn_C, wm_C_141, by decide +kernel, by decide +kernel, by decide +kernel⟩, ws_C_freshRun⟩
theorem kC_124 : gKS RX3 124 yC_leaveDone bC_leaveDone 4 none 3 := ⟨⟨wc_C_leaveDone, wn_C, wm_C_124, by decide +kernel, by decide +kernel, by decide +kernel⟩, ws_C_leaveDone⟩
theorem kC_186 : gKV RX3 186 yC_firstFree bC_firstFree 6 (some (.object "WorkerRows$Worker")) 1 := ⟨⟨wc_C_firstFree, wn_C, wm_C_186, by decide +kernel, by decide +kernel, by decide +kernel⟩, wi_C_firstFree, wv_C_firstFree⟩
theorem kC_146 : gKS RX3 146 yC_stateOf bC_stateOf 1 (some .int) 1 := ⟨⟨wc_C_stateOf, wn_C, wm_C_146, by decide +kernel, by decide +kernel, by decide +kernel⟩, ws_C_stateOf⟩
theorem kC_190 : gKV RX3 190 yC_startWorker bC_startWorker 3 (some (.object "WorkerRows$Worker")) 1 := ⟨⟨wc_C_startWorker, wn_C, wm_C_190, by decide +kernel, by decide +kernel, by decide +kernel⟩, wi_C_startWorker, wv_C_startWorker⟩
theorem kC_200 : gKV RX3 200 yC_countStaying bC_countStaying 7 (some .int) 1 := ⟨⟨wc_C_countStaying, wn_C, wm_C_200, by decide +kernel, by decide +kernel, by decide +kernel⟩, wi_C_countStaying, wv_C_countStaying⟩
theorem kC_204 : gKI RX3 204 yW_init bW_init 3 2 := ⟨⟨wc_W_init, wn_W, wm_C_204, by decide +kernel, by decide +kernel, by decide +kernel⟩, by decide +kernel, wi_W_init⟩
theorem kC_193 : gKS RX3 193 yC_beginWith bC_beginWith 2 none 2 := ⟨⟨wc_C_beginWith, wn_C, wm_C_193, by decide +kernel, by decide +kernel, by decide +kernel⟩, ws_C_beginWith⟩
theorem kL_53 : gKV RL 53 yC_finish bC_finish 6 (some .int) 1 := ⟨⟨wc_C_finish, wn_C, wm_L_53, by decide +kernel, by decide +kernel, by decide +kernel⟩, wi_C_finish, wv_C_finish⟩
theorem kC_100 : gKV RX3 100 yC_workerAt bC_workerAt 2 (some (.object "WorkerRows$Worker")) 1 := ⟨⟨wc_C_workerAt, wn_C, wm_C_100, by decide +kernel, by decide +kernel, by decide +kernel⟩, wi_C_workerAt, wv_C_workerAt⟩
theorem kC_108 : gKS RX3 108 yC_whatItGives bC_whatItGives 4 (some .long) 2 := ⟨⟨wc_C_whatItGives, wn_C, wm_C_108, by decide +kernel, by decide +kernel, by decide +kernel⟩, ws_C_whatItGives⟩
theorem kL_57 : gKV RL 57 yC_crash bC_crash 4 (some .int) 1 := ⟨⟨wc_C_crash, wn_C, wm_L_57, by decide +kernel, by decide +kernel, by decide +kernel⟩, wi_C_crash, wv_C_crash⟩
theorem kL_61 : gKV RL 61 yC_tick bC_tick 7 (some .int) 1 := ⟨⟨wc_C_tick, wn_C, wm_L_61, by decide +kernel, by decide +kernel, by decide +kernel⟩, wi_C_tick, wv_C_tick⟩
theorem kL_65 : gKV RL 65 yC_sample bC_sample 5 (some .int) 1 := ⟨⟨wc_C_sample, wn_C, wm_L_65, by decide +kernel, by decide +kernel, by decide +kernel⟩, wi_C_sample, wv_C_sample⟩
theorem kC_166 : gKV RX3 166 yC_redoUntrusted bC_redoUntrusted 8 (some .int) 2 := ⟨⟨wc_C_redoUntrusted, wn_C, wm_C_166, by decide +kernel, by decide +kernel, by decide +kernel⟩, wi_C_redoUntrusted, wv_C_redoUntrusted⟩
theorem kL_69 : gKV RL 69 yC_about bC_about 4 (some .int) 2 := ⟨⟨wc_C_about, wn_C, wm_L_69, by decide +kernel, by decide +kernel, by decide +kernel⟩, wi_C_about, wv_C_about⟩
theorem kL_74 : gKV RL 74 yC_result bC_result 3 (some .long) 1 := ⟨⟨wc_C_result, wn_C, wm_L_74, by decide +kernel, by decide +kernel, by decide +kernel⟩, wi_C_result, wv_C_result⟩
theorem kL_79 : gKV RL 79 yC_worker bC_worker 4 (some .int) 2 := ⟨⟨wc_C_worker, wn_C, wm_L_79, by decide +kernel, by decide +kernel, by decide +kernel⟩, wi_C_worker, wv_C_worker⟩
theorem kL_83 : gKV RL 83 yC_bars bC_bars 3 (some .int) 1 := ⟨⟨wc_C_bars, wn_C, wm_L_83, by decide +kernel, by decide +kernel, by decide +kernel⟩, wi_C_bars, wv_C_bars⟩
theorem kL_87 : gKV RL 87 yC_oneShot bC_oneShot 5 (some .long) 2 := ⟨⟨wc_C_oneShot, wn_C, wm_L_87, by decide +kernel, by decide +kernel, by decide +kernel⟩, wi_C_oneShot, wv_C_oneShot⟩
theorem kL_9 : gKS RL 9 yL_cell bL_cell 2 (some .int) 2 := ⟨⟨wc_L_cell, wn_L, wm_L_9, by decide +kernel, by decide +kernel, by decide +kernel⟩, ws_L_cell⟩
theorem kL_20 : gKI RL 20 yM_init bM_init 4 3 := ⟨⟨wc_M_init, wn_M, wm_L_20, by decide +kernel, by decide +kernel, by decide +kernel⟩, by decide +kernel, wi_M_init⟩
theorem kM_78 : gKS RX4 78 yM_between bM_between 3 (some .int) 3 := ⟨⟨wc_M_between, wn_M, wm_M_78, by decide +kernel, by decide +kernel, by decide +kernel⟩, ws_M_between⟩
theorem kL_27 : gKV RL 27 yM_tool bM_tool 4 (some .int) 2 := ⟨⟨wc_M_tool, wn_M, wm_L_27, by decide +kernel, by decide +kernel, by decide +kernel⟩, wi_M_tool, wv_M_tool⟩
theorem kL_37 : gKV RL 37 yM_quirk bM_quirk 3 (some .boolean) 2 := ⟨⟨wc_M_quirk, wn_M, wm_L_37, by decide +kernel, by decide +kernel, by decide +kernel⟩, wi_M_quirk, wv_M_quirk⟩
theorem kM_96 : gKS RX4 96 yM_in bM_in 2 (some .boolean) 2 := ⟨⟨wc_M_in, wn_M, wm_M_96, by decide +kernel, by decide +kernel, by decide +kernel⟩, ws_M_in⟩
theorem kL_42 : gKV RL 42 yM_request bM_request 6 (some .int) 3 := ⟨⟨wc_M_request, wn_M, wm_L_42, by decide +kernel, by decide +kernel, by decide +kernel⟩, wi_M_request, wv_M_request⟩
theorem kL_47 : gKV RL 47 yM_cancel bM_cancel 2 (some .int) 1 := ⟨⟨wc_M_cancel, wn_M, wm_L_47, by decide +kernel, by decide +kernel, by decide +kernel⟩, wi_M_cancel, wv_M_cancel⟩
theorem kL_52 : gKV RL 52 yM_step bM_step 3 (some .int) 0 := ⟨⟨wc_M_step, wn_M, wm_L_52, by decide +kernel, by decide +kernel, by decide +kernel⟩, wi_M_step, wv_M_step⟩
theorem kM_128 : gKV RX4 128 yM_goes bM_goes 4 (some .boolean) 1 := ⟨⟨wc_M_goes, wn_M, wm_M_128, by decide +kernel, by decide +kernel, by decide +kernel⟩, wi_M_goes, wv_M_goes⟩
theorem kM_110 : gKV RX4 110 yM_oneShot bM_oneShot 8 (some .long) 2 := ⟨⟨wc_M_oneShot, wn_M, wm_M_110, by decide +kernel, by decide +kernel, by decide +kernel⟩, wi_M_oneShot, wv_M_oneShot⟩
theorem kM_114 : gKV RX4 114 yM_answers bM_answers 4 none 2 := ⟨⟨wc_M_answers, wn_M, wm_M_114, by decide +kernel, by decide +kernel, by decide +kernel⟩, wi_M_answers, wv_M_answers⟩
theorem kM_118 : gKV RX4 118 yM_freeOne bM_freeOne 4 (some .int) 1 := ⟨⟨wc_M_freeOne, wn_M, wm_M_118, by decide +kernel, by decide +kernel, by decide +kernel⟩, wi_M_freeOne, wv_M_freeOne⟩
theorem kM_122 : gKV RX4 122 yM_alive bM_alive 4 (some .int) 1 := ⟨⟨wc_M_alive, wn_M, wm_M_122, by decide +kernel, by decide +kernel, by decide +kernel⟩, wi_M_alive, wv_M_alive⟩
theorem kM_125 : gKV RX4 125 yM_newOne bM_newOne 3 (some .int) 1 := ⟨⟨wc_M_newOne, wn_M, wm_M_125, by decide +kernel, by decide +kernel, by decide +kernel⟩, wi_M_newOne, wv_M_newOne⟩
theorem kL_56 : gKV RL 56 yM_finish bM_finish 4 (some .int) 1 := ⟨⟨wc_M_finish, wn_M, wm_L_56, by decide +kernel, by decide +kernel, by decide +kernel⟩, wi_M_finish, wv_M_finish⟩
theorem kM_131 : gKV RX4 131 yM_isBusy bM_isBusy 2 (some .boolean) 1 := ⟨⟨wc_M_isBusy, wn_M, wm_M_131, by decide +kernel, by decide +kernel, by decide +kernel⟩, wi_M_isBusy, wv_M_isBusy⟩
theorem kM_103 : gKV RX4 103 yM_lets bM_lets 2 (some .boolean) 1 := ⟨⟨wc_M_lets, wn_M, wm_M_103, by decide +kernel, by decide +kernel, by decide +kernel⟩, wi_M_lets, wv_M_lets⟩
theorem kM_137 : gKV RX4 137 yM_ends bM_ends 4 (some .int) 2 := ⟨⟨wc_M_ends, wn_M, wm_M_137, by decide +kernel, by decide +kernel, by decide +kernel⟩, wi_M_ends, wv_M_ends⟩
theorem kL_60 : gKV RL 60 yM_crash bM_crash 4 (some .int) 1 := ⟨⟨wc_M_crash, wn_M, wm_L_60, by decide +kernel, by decide +kernel, by decide +kernel⟩, wi_M_crash, wv_M_crash⟩
theorem kL_32 : gKV RL 32 yM_edition bM_edition 8 (some .int) 2 := ⟨⟨wc_M_edition, wn_M, wm_L_32, by decide +kernel, by decide +kernel, by decide +kernel⟩, wi_M_edition, wv_M_edition⟩
theorem kM_141 : gKV RX4 141 yM_waitsAgain bM_waitsAgain 2 none 1 := ⟨⟨wc_M_waitsAgain, wn_M, wm_M_141, by decide +kernel, by decide +kernel, by decide +kernel⟩, wi_M_waitsAgain, wv_M_waitsAgain⟩
theorem kL_64 : gKV RL 64 yM_tick bM_tick 5 (some .int) 1 := ⟨⟨wc_M_tick, wn_M, wm_L_64, by decide +kernel, by decide +kernel, by decide +kernel⟩, wi_M_tick, wv_M_tick⟩
theorem kL_68 : gKV RL 68 yM_sample bM_sample 6 (some .int) 1 := ⟨⟨wc_M_sample, wn_M, wm_L_68, by decide +kernel, by decide +kernel, by decide +kernel⟩, wi_M_sample, wv_M_sample⟩
theorem kM_146 : gKV RX4 146 yM_isDoneBy bM_isDoneBy 3 (some .boolean) 2 := ⟨⟨wc_M_isDoneBy, wn_M, wm_M_146, by decide +kernel, by decide +kernel, by decide +kernel⟩, wi_M_isDoneBy, wv_M_isDoneBy⟩
theorem kL_73 : gKV RL 73 yM_about bM_about 3 (some .int) 2 := ⟨⟨wc_M_about, wn_M, wm_L_73, by decide +kernel, by decide +kernel, by decide +kernel⟩, wi_M_about, wv_M_about⟩
theorem kL_78 : gKV RL 78 yM_result bM_result 2 (some .long) 1 := ⟨⟨wc_M_result, wn_M, wm_L_78, by decide +kernel, by decide +kernel, by decide +kernel⟩, wi_M_result, wv_M_result⟩
theorem kL_82 : gKV RL 82 yM_worker bM_worker 3 (some .int) 2 := ⟨⟨wc_M_worker, wn_M, wm_L_82, by decide +kernel, by decide +kernel, by decide +kernel⟩, wi_M_worker, wv_M_worker⟩
theorem kL_86 : gKV RL 86 yM_bars bM_bars 2 (some .int) 1 := ⟨⟨wc_M_bars, wn_M, wm_L_86, by decide +kernel, by decide +kernel, by decide +kernel⟩, wi_M_bars, wv_M_bars⟩
theorem kL_91 : gKV RL 91 yM_oneShot bM_oneShot 8 (some .long) 2 := ⟨⟨wc_M_oneShot, wn_M, wm_L_91, by decide +kernel, by decide +kernel, by decide +kernel⟩, wi_M_oneShot, wv_M_oneShot⟩
end
section
/-! WHAT THE METHODS OF WorkerRows DO, in words of the state -/
theorem bI_0 {b : Bool} : bI b = 0 ↔ b = false := by cases b <;> decide
theorem sT_sT (x : cs_S) (i : Nat) (a b : cs_T) : sT (sT x i a) i b = sT x i b := by simp only [sT, gT, bx_uu]
theorem sW_sW (x : cs_S) (i : Nat) (a b : cs_W) : sW (sW x i a) i b = sW x i b := by simp only [sW, gW, bx_uu]
theorem sR_sR (x : cs_S) (i : Nat) (a b : cs_R) : sR (sR x i a) i b = sR x i b := by simp only [sR, gR, bx_uu]
def zEnd (w : cs_W) : Int32 := if wEn w = 0 then 0 else 1
def zSt (w : cs_W) : Int32 := if wEn w = 0 then (if wRq w = none then 0 else 1) else 2
def os1 (r : Int64) : Int64 := (r ^^^ (r.toUInt64 >>> ((31 : Int32).toInt64.toUInt64 &&& Int64.toUInt64 63)).toInt64) * (-7046029254386353131)
def os (e i : Int64) : Int64 := os1 (os1 (e ^^^ i)) + i
def qCan (r : cs_R) : cs_R := rUn_ (rWk_ (rSt_ r 3) none) false
def qDone (r : cs_R) (w : Option Nat) (v : Int64) : cs_R := if rUn r = true then qCan r else rRs_ (rWk_ (rSt_ r 2) w) v
def qWait (r : cs_R) : cs_R := if rUn r = true then qCan r else rWk_ (rSt_ r 0) none
section C1
variable {l : Launch} {D : va_G} {k : ck_F} {d : ck_A} {x : cs_S} {LL : List Nat} {f : Nat → va_E} {sz : Nat}
set_option maxHeartbeats 4000000 in
set_option maxRecDepth 100000 in
theorem c_isEnded (hI : cJ k (d, x) LL f) {i : Nat} (hi : i < nW x) : Met l yC_isEnded (wz yC_isEnded bC_isEnded 1 (some .boolean)) (rmL 0 0 0) (gP D (ck_tys k) LL f sz [.ref (aWo d i)]) (vp_Si (fun r => r = zEnd (gW x i))) 0 0 (fun _ => False) := by
  refine gMetR (own := RX3) (u := (d, x)) (by decide) rfl hI (Nat.le_of_ble_eq_true rfl) ?_
  intro p e s m below meth c ls hC hr hlk hH hl
  have hx := hC.1
  have hb := hC.2.1
  have hml := hC.2.2.2.2.2
  have hts := hC.2.2.1
  have hown := hC.2.2.2.1
  have hl : lv_has ls 1 [(0, _)] := hl
  first | refine lv_aload_n hx hb dC_isEnded_0 rfl (lv_at hl 0 rfl) ?_ | refine lv_aload_nN hx hb dC_isEnded_0 rfl (lv_at hl 0 rfl) ?_
  refine gC_W_endedBy hC hH (by assumption) dC_isEnded_1 ?_
  refine lv_if_eq  (tgt := 11) hx hb dC_isEnded_4 (by decide) (fun h => ?_) (fun h => ?_)
  · refine lv_iconst (v := 0) hx hb dC_isEnded_11 (by decide) ?_
    exact grSi hC hr hlk rfl (by simp [zEnd, h]) dC_isEnded_12
  · refine lv_iconst (v := 1) hx hb dC_isEnded_7 (by decide) ?_
    refine lv_goto (tgt := 12) hx hb dC_isEnded_8 (by decide) ?_
    exact grSi hC hr hlk rfl (by simp [zEnd, h]) dC_isEnded_12
set_option maxHeartbeats 4000000 in
set_option maxRecDepth 100000 in
theorem c_stateOf (hI : cJ k (d, x) LL f) {i : Nat} (hi : i < nW x) : Met l yC_stateOf (wz yC_stateOf bC_stateOf 1 (some .int)) (rmL 1 0 0) (gP D (ck_tys k) LL f sz [.ref (aWo d i)]) (vp_Si (fun r => r = zSt (gW x i))) 0 0 (fun _ => False) := by
  refine gMetR (own := RX3) (u := (d, x)) (by decide) rfl hI (Nat.le_of_ble_eq_true rfl) ?_
  intro p e s m below meth c ls hC hr hlk hH hl
  have hx := hC.1
  have hb := hC.2.1
  have hml := hC.2.2.2.2.2
  have hts := hC.2.2.1
  have hown := hC.2.2.2.1
  have hl : lv_has ls 1 [(0, _)] := hl
  first | refine lv_aload_n hx hb dC_stateOf_0 rfl (lv_at hl 0 rfl) ?_ | refine lv_aload_nN hx hb dC_stateOf_0 rfl (lv_at hl 0 rfl) ?_
  refine gcSi hC hl.1 hH (fun LL f sz hI => c_isEnded hI hi) kC_63 ⟨Nat.le_of_ble_eq_true rfl, Nat.le_of_ble_eq_true rfl⟩ dC_stateOf_1 ⟨Nat.le_of_ble_eq_true rfl, Nat.le_of_ble_eq_true rfl⟩ rfl (Nat.le_of_ble_eq_true rfl) (fun r hr1 => ?_)
  refine lv_if_eq  (tgt := 9) hx hb dC_stateOf_4 (by decide) (fun h => ?_) (fun h => ?_)
  · have h0 : wEn (gW x i) = 0 := by
      rw [hr1] at h
      simp only [zEnd] at h
      split at h
      · assumption
      · exact absurd h (by decide)
    first | refine lv_aload_n hx hb dC_stateOf_9 rfl (lv_at hl 0 rfl) ?_ | refine lv_aload_nN hx hb dC_stateOf_9 rfl (lv_at hl 0 rfl) ?_
    refine gC_W_request hC hH (by assumption) dC_stateOf_10 ?_
    rcases hq : wRq (gW x i) with _ | j
    · first | refine lv_ifnonnullN hx hb dC_stateOf_13 ?_ | refine lv_ifnonnull (tgt := 20) hx hb dC_stateOf_13 (by decide) ?_
      refine lv_iconst (v := 0) hx hb dC_stateOf_16 (by decide) ?_
      refine lv_goto (tgt := 21) hx hb dC_stateOf_17 (by decide) ?_
      exact grSi hC hr hlk rfl (by simp [zSt, h0, hq]) dC_stateOf_21
    · first | refine lv_ifnonnullN hx hb dC_stateOf_13 ?_ | refine lv_ifnonnull (tgt := 20) hx hb dC_stateOf_13 (by decide) ?_
      refine lv_iconst (v := 1) hx hb dC_stateOf_20 (by decide) ?_
      exact grSi hC hr hlk rfl (by simp [zSt, h0, hq]) dC_stateOf_21
  · have h0 : ¬ wEn (gW x i) = 0 := by
      intro q
      exact h (by rw [hr1]; simp [zEnd, q])
    refine lv_iconst (v := 2) hx hb dC_stateOf_7 (by decide) ?_
    exact grSi hC hr hlk rfl (by simp [zSt, h0]) dC_stateOf_8
set_option maxHeartbeats 4000000 in
set_option maxRecDepth 100000 in
theorem c_freshRun (a b : Int64) : Met l yC_freshRun (wz yC_freshRun bC_freshRun 7 (some .long)) (rmL 0 0 0) (fun v _ => v = ([.long a, .long b] : List Value).toArray) (vp_Sl (fun r => r = os a b)) 0 0 (fun _ => False) := by
  refine gMetS (own := RX3) (by decide) rfl (Nat.le_of_ble_eq_true rfl) ?_
  intro p e s m below meth c ls hx hb hts hown hml hr hlk hl
  have hl : lv_has ls 7 [(0, _), (2, _)] := hl
  refine lv_lload_n hx hb dC_freshRun_0 rfl (lv_at hl 0 rfl) ?_
  refine lv_lload_n hx hb dC_freshRun_1 rfl (lv_at hl 1 rfl) ?_
  refine lv_lxor hx hb dC_freshRun_2 ?_
  refine lv_lstore hx hb dC_freshRun_3 hl (by decide) rfl (fun ls hl => ?_)
  have hl : lv_has ls 7 [(4, _), (0, _), (2, _)] := hl
  refine lv_iconst (v := 0) hx hb dC_freshRun_5 (by decide) ?_
  refine lv_istore hx hb dC_freshRun_6 hl (by decide) rfl (fun ls hl => ?_)
  have hl : lv_has ls 7 [(6, _), (4, _), (0, _), (2, _)] := hl
  refine lv_iload hx hb dC_freshRun_8 (lv_at hl 0 rfl) ?_
  refine lv_iconst (v := 2) hx hb dC_freshRun_10 (by decide) ?_
  refine lv_icmp_ge  (tgt := 34) hx hb dC_freshRun_11 (by decide) (fun h => ?_) (fun h => ?_)
  · exact absurd h (by decide)
  refine lv_lload hx hb dC_freshRun_14 (lv_at hl 1 rfl) ?_
  refine lv_lload hx hb dC_freshRun_16 (lv_at hl 1 rfl) ?_
  refine lv_bipush (v := 31) hx hb dC_freshRun_18 (by decide) ?_
  refine lv_lushr hx hb dC_freshRun_20 rfl ?_
  refine lv_lxor hx hb dC_freshRun_21 ?_
  refine lv_ldc2 hx hb hown (hts _ wq_C_183) dC_freshRun_22 ?_
  refine lv_lmul hx hb dC_freshRun_25 ?_
  refine lv_lstore hx hb dC_freshRun_26 hl (by decide) rfl (fun ls hl => ?_)
  have hl : lv_has ls 7 [(4, _), (6, _), (0, _), (2, _)] := hl
  refine lv_iinc hx hb dC_freshRun_28 hl (k := 1) rfl rfl (by decide) rfl (fun ls hl => ?_)
  have hl : lv_has ls 7 [(6, _), (4, _), (0, _), (2, _)] := hl
  refine lv_goto (tgt := 8) hx hb dC_freshRun_31 (by decide) ?_
  refine lv_iload hx hb dC_freshRun_8 (lv_at hl 0 rfl) ?_
  refine lv_iconst (v := 2) hx hb dC_freshRun_10 (by decide) ?_
  refine lv_icmp_ge  (tgt := 34) hx hb dC_freshRun_11 (by decide) (fun h => ?_) (fun h => ?_)
  · exact absurd h (by decide)
  refine lv_lload hx hb dC_freshRun_14 (lv_at hl 1 rfl) ?_
  refine lv_lload hx hb dC_freshRun_16 (lv_at hl 1 rfl) ?_
  refine lv_bipush (v := 31) hx hb dC_freshRun_18 (by decide) ?_
  refine lv_lushr hx hb dC_freshRun_20 rfl ?_
  refine lv_lxor hx hb dC_freshRun_21 ?_
  refine lv_ldc2 hx hb hown (hts _ wq_C_183) dC_freshRun_22 ?_
  refine lv_lmul hx hb dC_freshRun_25 ?_
  refine lv_lstore hx hb dC_freshRun_26 hl (by decide) rfl (fun ls hl => ?_)
  have hl : lv_has ls 7 [(4, _), (6, _), (0, _), (2, _)] := hl
  refine lv_iinc hx hb dC_freshRun_28 hl (k := 1) rfl rfl (by decide) rfl (fun ls hl => ?_)
  have hl : lv_has ls 7 [(6, _), (4, _), (0, _), (2, _)] := hl
  refine lv_goto (tgt := 8) hx hb dC_freshRun_31 (by decide) ?_
  refine lv_iload hx hb dC_freshRun_8 (lv_at hl 0 rfl) ?_
  refine lv_iconst (v := 2) hx hb dC_freshRun_10 (by decide) ?_
  refine lv_icmp_ge  (tgt := 34) hx hb dC_freshRun_11 (by decide) (fun h => ?_) (fun h => ?_)
  · refine lv_lload hx hb dC_freshRun_34 (lv_at hl 1 rfl) ?_
    refine lv_lload_n hx hb dC_freshRun_36 rfl (lv_at hl 3 rfl) ?_
    refine lv_ladd hx hb dC_freshRun_37 ?_
    exact W.lret hx hb hr (fun t ht hW => ⟨_, rfl, rfl, ht⟩) (fun q h => by cases h) dC_freshRun_38
  · exact absurd h (by decide)
end C1
end
section
section C2
variable {l : Launch} {D : va_G} {k : ck_F} {d : ck_A} {x : cs_S} {LL : List Nat} {f : Nat → va_E} {sz : Nat}
def zNear (v lo hi : Int32) : Int32 := if lo < (if v < hi then v else hi) then (if v < hi then v else hi) else lo
set_option maxHeartbeats 4000000 in
set_option maxRecDepth 100000 in
theorem c_nearest (v lo hi : Int32) : Met l yC_nearest (wz yC_nearest bC_nearest 3 (some .int)) (rmL 1 0 0) (fun q _ => q = ([.int v, .int lo, .int hi] : List Value).toArray) (vp_Si (fun r => r = zNear v lo hi)) 0 0 (fun _ => False) := by
  refine gMetS (own := RX3) (by decide) rfl (Nat.le_of_ble_eq_true rfl) ?_
  intro p e s m below meth c ls hx hb hts hown hml hr hlk hl
  have hl : lv_has ls 3 [(0, _), (1, _), (2, _)] := hl
  refine lv_iload_n hx hb dC_nearest_0 rfl (lv_at hl 1 rfl) ?_
  refine lv_iload_n hx hb dC_nearest_1 rfl (lv_at hl 2 rfl) ?_
  refine lv_iload_n hx hb dC_nearest_2 rfl (lv_at hl 0 rfl) ?_
  refine va_mmin hx hb (hml.trans hl.1.symm) hown (hts _ wm_C_180) (hts _ ws_J_min) (hts _ wn_J) (hts _ wc_J_min) (Nat.le_of_ble_eq_true rfl) (Nat.le_of_ble_eq_true rfl) (Nat.le_of_ble_eq_true rfl) (Nat.le_of_ble_eq_true rfl) dC_nearest_3 ?_
  refine va_mmax hx hb (hml.trans hl.1.symm) hown (hts _ wm_C_160) (hts _ ws_J_max) (hts _ wn_J) (hts _ wc_J_max) (Nat.le_of_ble_eq_true rfl) (Nat.le_of_ble_eq_true rfl) (Nat.le_of_ble_eq_true rfl) (Nat.le_of_ble_eq_true rfl) dC_nearest_6 ?_
  exact W.zret hx hb hr rfl (fun t ht hW => ⟨_, rfl, rfl, ht⟩) (fun q h => by cases h) dC_nearest_9
def zGive (x : cs_S) (i j : Nat) : Int64 := os (wEd (gW x i)) (rIn (gR x j)) + (tQu (gT x (wTo (gW x i)))).toInt64 * (wFi (gW x i)).toInt64
set_option maxHeartbeats 4000000 in
set_option maxRecDepth 100000 in
theorem c_whatItGives (hI : cJ k (d, x) LL f) {i j : Nat} (hi : i < nW x) (hj : j < nR x) : Met l yC_whatItGives (wz yC_whatItGives bC_whatItGives 4 (some .long)) (rmL 1 0 0) (gP D (ck_tys k) LL f sz [.ref (aWo d i), .ref (aRq d j)]) (vp_Sl (fun r => r = zGive x i j)) 0 0 (fun _ => False) := by
  refine gMetR (own := RX3) (u := (d, x)) (by decide) rfl hI (Nat.le_of_ble_eq_true rfl) ?_
  intro p e s m below meth c ls hC hr hlk hH hl
  have ht := ((cG.ok hH).2.1 i hi).1
  have hx := hC.1
  have hb := hC.2.1
  have hml := hC.2.2.2.2.2
  have hts := hC.2.2.1
  have hown := hC.2.2.2.1
  have hl : lv_has ls 4 [(0, _), (1, _)] := hl
  first | refine lv_aload_n hx hb dC_whatItGives_0 rfl (lv_at hl 0 rfl) ?_ | refine lv_aload_nN hx hb dC_whatItGives_0 rfl (lv_at hl 0 rfl) ?_
  refine gC_W_tool hC hH (by assumption) dC_whatItGives_1 ?_
  refine gC_T_quirk hC hH (by assumption) dC_whatItGives_4 ?_
  refine lv_i2l hx hb dC_whatItGives_7 rfl ?_
  first | refine lv_aload_n hx hb dC_whatItGives_8 rfl (lv_at hl 0 rfl) ?_ | refine lv_aload_nN hx hb dC_whatItGives_8 rfl (lv_at hl 0 rfl) ?_
  refine gC_W_finished hC hH (by assumption) dC_whatItGives_9 ?_
  refine lv_i2l hx hb dC_whatItGives_12 rfl ?_
  refine lv_lmul hx hb dC_whatItGives_13 ?_
  refine lv_lstore_n hx hb dC_whatItGives_14 rfl hl (by decide) rfl (fun ls hl => ?_)
  have hl : lv_has ls 4 [(2, _), (0, _), (1, _)] := hl
  first | refine lv_aload_n hx hb dC_whatItGives_15 rfl (lv_at hl 1 rfl) ?_ | refine lv_aload_nN hx hb dC_whatItGives_15 rfl (lv_at hl 1 rfl) ?_
  refine gC_W_edition hC hH (by assumption) dC_whatItGives_16 ?_
  first | refine lv_aload_n hx hb dC_whatItGives_19 rfl (lv_at hl 2 rfl) ?_ | refine lv_aload_nN hx hb dC_whatItGives_19 rfl (lv_at hl 2 rfl) ?_
  refine gC_R_input hC hH (by assumption) dC_whatItGives_20 ?_
  refine gcTl hC.fix hl.1 (c_freshRun _ _) kC_141 ⟨Nat.le_of_ble_eq_true rfl, Nat.le_of_ble_eq_true rfl⟩ dC_whatItGives_23 ⟨Nat.le_of_ble_eq_true rfl, Nat.le_of_ble_eq_true rfl⟩ rfl (Nat.le_of_ble_eq_true rfl) (fun r hr1 => ?_)
  refine lv_lload_n hx hb dC_whatItGives_26 rfl (lv_at hl 0 rfl) ?_
  refine lv_ladd hx hb dC_whatItGives_27 ?_
  subst hr1
  exact grSl hC hr hlk rfl dC_whatItGives_28
set_option maxHeartbeats 4000000 in
set_option maxRecDepth 100000 in
theorem c_toolAt (hI : cJ k (d, x) LL f) (v : Int32) : Met l yC_toolAt (wz yC_toolAt bC_toolAt 2 (some (.object "WorkerRows$Tool"))) (rmL 0 0 0) (gP D (ck_tys k) LL f sz [.ref (kO k), .int v]) (va_Sq (fun r => (∃ i : Nat, i < nT x ∧ v = nI i ∧ r = some (aTo d i)) ∨ ((∀ i : Nat, i < nT x → v ≠ nI i) ∧ r = none))) 0 0 (fun _ => False) := by
  refine gMetR (own := RX3) (u := (d, x)) (by decide) rfl hI (Nat.le_of_ble_eq_true rfl) ?_
  intro p e s m below meth c ls hC hr hlk hH hl
  have hn := (cG.ok hH).1.1
  have hx := hC.1
  have hb := hC.2.1
  have hml := hC.2.2.2.2.2
  have hts := hC.2.2.1
  have hown := hC.2.2.2.1
  have hl : lv_has ls 2 [(0, _), (1, _)] := hl
  refine lv_iload_n hx hb dC_toolAt_0 rfl (lv_at hl 1 rfl) ?_
  refine lv_if_lt  (tgt := 13) hx hb dC_toolAt_1 (by decide) (fun h => ?_) (fun h => ?_)
  · refine lv_null hx hb dC_toolAt_13 ?_
    refine lv_goto (tgt := 23) hx hb dC_toolAt_14 (by decide) ?_
    exact grSq (v := none) hC hr hlk (Or.inr ⟨fun i hi q => nI_pos (n := i) (by omega) (q ▸ h), rfl⟩) dC_toolAt_23
  · refine lv_iload_n hx hb dC_toolAt_4 rfl (lv_at hl 1 rfl) ?_
    first | refine lv_aload_n hx hb dC_toolAt_5 rfl (lv_at hl 0 rfl) ?_ | refine lv_aload_nN hx hb dC_toolAt_5 rfl (lv_at hl 0 rfl) ?_
    refine gC_C_tools hC hH dC_toolAt_6 ?_
    first | refine lC_T hC hH dC_toolAt_9 ?_ | refine lC_W hC hH dC_toolAt_9 ?_ | refine lC_R hC hH dC_toolAt_9 ?_
    refine lv_icmp_lt  (tgt := 17) hx hb dC_toolAt_10 (by decide) (fun h2 => ?_) (fun h2 => ?_)
    · first | refine lv_aload_n hx hb dC_toolAt_17 rfl (lv_at hl 0 rfl) ?_ | refine lv_aload_nN hx hb dC_toolAt_17 rfl (lv_at hl 0 rfl) ?_
      refine gC_C_tools hC hH dC_toolAt_18 ?_
      refine lv_iload_n hx hb dC_toolAt_21 rfl (lv_at hl 1 rfl) ?_
      obtain ⟨i, hi, rfl⟩ : ∃ i : Nat, i < 6 ∧ v = nI i := by
        rcases pk_ix v (n := 6) (by decide) with q | q | q
        · exact absurd q h
        · exact absurd h2 (Int32.not_lt.mpr q)
        · exact q
      by_cases hi2 : i < nT x
      · refine aC_T hC hH hi2 rfl dC_toolAt_22 ?_
        exact grSq (v := some (aTo d i)) hC hr hlk (Or.inl ⟨i, hi2, rfl, rfl⟩) dC_toolAt_23
      · refine aC_TN hC hH hi2 hi rfl dC_toolAt_22 ?_
        exact grSq (v := none) hC hr hlk (Or.inr ⟨fun j hj q => hi2 (by rw [(nI_eq (by omega) (by omega)).mp q]; exact hj), rfl⟩) dC_toolAt_23
    · refine lv_null hx hb dC_toolAt_13 ?_
      refine lv_goto (tgt := 23) hx hb dC_toolAt_14 (by decide) ?_
      exact grSq (v := none) hC hr hlk (Or.inr ⟨fun i hi q => h2 (by rw [q]; exact nI_lt (b := 6) (by omega) (by decide)), rfl⟩) dC_toolAt_23
set_option maxHeartbeats 4000000 in
set_option maxRecDepth 100000 in
theorem c_workerAt (hI : cJ k (d, x) LL f) (v : Int32) : Met l yC_workerAt (wz yC_workerAt bC_workerAt 2 (some (.object "WorkerRows$Worker"))) (rmL 0 0 0) (gP D (ck_tys k) LL f sz [.ref (kO k), .int v]) (va_Sq (fun r => (∃ i : Nat, i < nW x ∧ v = nI i ∧ r = some (aWo d i)) ∨ ((∀ i : Nat, i < nW x → v ≠ nI i) ∧ r = none))) 0 0 (fun _ => False) := by
  refine gMetR (own := RX3) (u := (d, x)) (by decide) rfl hI (Nat.le_of_ble_eq_true rfl) ?_
  intro p e s m below meth c ls hC hr hlk hH hl
  have hn := (cG.ok hH).1.2.1
  have hx := hC.1
  have hb := hC.2.1
  have hml := hC.2.2.2.2.2
  have hts := hC.2.2.1
  have hown := hC.2.2.2.1
  have hl : lv_has ls 2 [(0, _), (1, _)] := hl
  refine lv_iload_n hx hb dC_workerAt_0 rfl (lv_at hl 1 rfl) ?_
  refine lv_if_lt  (tgt := 13) hx hb dC_workerAt_1 (by decide) (fun h => ?_) (fun h => ?_)
  · refine lv_null hx hb dC_workerAt_13 ?_
    refine lv_goto (tgt := 23) hx hb dC_workerAt_14 (by decide) ?_
    exact grSq (v := none) hC hr hlk (Or.inr ⟨fun i hi q => nI_pos (n := i) (by omega) (q ▸ h), rfl⟩) dC_workerAt_23
  · refine lv_iload_n hx hb dC_workerAt_4 rfl (lv_at hl 1 rfl) ?_
    first | refine lv_aload_n hx hb dC_workerAt_5 rfl (lv_at hl 0 rfl) ?_ | refine lv_aload_nN hx hb dC_workerAt_5 rfl (lv_at hl 0 rfl) ?_
    refine gC_C_workers hC hH dC_workerAt_6 ?_
    first | refine lC_T hC hH dC_workerAt_9 ?_ | refine lC_W hC hH dC_workerAt_9 ?_ | refine lC_R hC hH dC_workerAt_9 ?_
    refine lv_icmp_lt  (tgt := 17) hx hb dC_workerAt_10 (by decide) (fun h2 => ?_) (fun h2 => ?_)
    · first | refine lv_aload_n hx hb dC_workerAt_17 rfl (lv_at hl 0 rfl) ?_ | refine lv_aload_nN hx hb dC_workerAt_17 rfl (lv_at hl 0 rfl) ?_
      refine gC_C_workers hC hH dC_workerAt_18 ?_
      refine lv_iload_n hx hb dC_workerAt_21 rfl (lv_at hl 1 rfl) ?_
      obtain ⟨i, hi, rfl⟩ : ∃ i : Nat, i < 60 ∧ v = nI i := by
        rcases pk_ix v (n := 60) (by decide) with q | q | q
        · exact absurd q h
        · exact absurd h2 (Int32.not_lt.mpr q)
        · exact q
      by_cases hi2 : i < nW x
      · refine aC_W hC hH hi2 rfl dC_workerAt_22 ?_
        exact grSq (v := some (aWo d i)) hC hr hlk (Or.inl ⟨i, hi2, rfl, rfl⟩) dC_workerAt_23
      · refine aC_WN hC hH hi2 hi rfl dC_workerAt_22 ?_
        exact grSq (v := none) hC hr hlk (Or.inr ⟨fun j hj q => hi2 (by rw [(nI_eq (by omega) (by omega)).mp q]; exact hj), rfl⟩) dC_workerAt_23
    · refine lv_null hx hb dC_workerAt_13 ?_
      refine lv_goto (tgt := 23) hx hb dC_workerAt_14 (by decide) ?_
      exact grSq (v := none) hC hr hlk (Or.inr ⟨fun i hi q => h2 (by rw [q]; exact nI_lt (b := 60) (by omega) (by decide)), rfl⟩) dC_workerAt_23
set_option maxHeartbeats 4000000 in
set_option maxRecDepth 100000 in
theorem c_requestAt (hI : cJ k (d, x) LL f) (v : Int32) : Met l yC_requestAt (wz yC_requestAt bC_requestAt 2 (some (.object "WorkerRows$Request"))) (rmL 0 0 0) (gP D (ck_tys k) LL f sz [.ref (kO k), .int v]) (va_Sq (fun r => (∃ i : Nat, i < nR x ∧ v = nI i ∧ r = some (aRq d i)) ∨ ((∀ i : Nat, i < nR x → v ≠ nI i) ∧ r = none))) 0 0 (fun _ => False) := by
  refine gMetR (own := RX3) (u := (d, x)) (by decide) rfl hI (Nat.le_of_ble_eq_true rfl) ?_
  intro p e s m below meth c ls hC hr hlk hH hl
  have hn := (cG.ok hH).1.2.2
  have hx := hC.1
  have hb := hC.2.1
  have hml := hC.2.2.2.2.2
  have hts := hC.2.2.1
  have hown := hC.2.2.2.1
  have hl : lv_has ls 2 [(0, _), (1, _)] := hl
  refine lv_iload_n hx hb dC_requestAt_0 rfl (lv_at hl 1 rfl) ?_
  refine lv_if_lt  (tgt := 13) hx hb dC_requestAt_1 (by decide) (fun h => ?_) (fun h => ?_)
  · refine lv_null hx hb dC_requestAt_13 ?_
    refine lv_goto (tgt := 23) hx hb dC_requestAt_14 (by decide) ?_
    exact grSq (v := none) hC hr hlk (Or.inr ⟨fun i hi q => nI_pos (n := i) (by omega) (q ▸ h), rfl⟩) dC_requestAt_23
  · refine lv_iload_n hx hb dC_requestAt_4 rfl (lv_at hl 1 rfl) ?_
    first | refine lv_aload_n hx hb dC_requestAt_5 rfl (lv_at hl 0 rfl) ?_ | refine lv_aload_nN hx hb dC_requestAt_5 rfl (lv_at hl 0 rfl) ?_
    refine gC_C_requests hC hH dC_requestAt_6 ?_
    first | refine lC_T hC hH dC_requestAt_9 ?_ | refine lC_W hC hH dC_requestAt_9 ?_ | refine lC_R hC hH dC_requestAt_9 ?_
    refine lv_icmp_lt  (tgt := 17) hx hb dC_requestAt_10 (by decide) (fun h2 => ?_) (fun h2 => ?_)
    · first | refine lv_aload_n hx hb dC_requestAt_17 rfl (lv_at hl 0 rfl) ?_ | refine lv_aload_nN hx hb dC_requestAt_17 rfl (lv_at hl 0 rfl) ?_
      refine gC_C_requests hC hH dC_requestAt_18 ?_
      refine lv_iload_n hx hb dC_requestAt_21 rfl (lv_at hl 1 rfl) ?_
      obtain ⟨i, hi, rfl⟩ : ∃ i : Nat, i < 100 ∧ v = nI i := by
        rcases pk_ix v (n := 100) (by decide) with q | q | q
        · exact absurd q h
        · exact absurd h2 (Int32.not_lt.mpr q)
        · exact q
      by_cases hi2 : i < nR x
      · refine aC_R hC hH hi2 rfl dC_requestAt_22 ?_
        exact grSq (v := some (aRq d i)) hC hr hlk (Or.inl ⟨i, hi2, rfl, rfl⟩) dC_requestAt_23
      · refine aC_RN hC hH hi2 hi rfl dC_requestAt_22 ?_
        exact grSq (v := none) hC hr hlk (Or.inr ⟨fun j hj q => hi2 (by rw [(nI_eq (by omega) (by omega)).mp q]; exact hj), rfl⟩) dC_requestAt_23
    · refine lv_null hx hb dC_requestAt_13 ?_
      refine lv_goto (tgt := 23) hx hb dC_requestAt_14 (by decide) ?_
      exact grSq (v := none) hC hr hlk (Or.inr ⟨fun i hi q => h2 (by rw [q]; exact nI_lt (b := 100) (by omega) (by decide)), rfl⟩) dC_requestAt_23
set_option maxHeartbeats 4000000 in
set_option maxRecDepth 100000 in
theorem c_becomeCancelled (hI : cJ k (d, x) LL f) {j : Nat} (hj : j < nR x) : Met l yC_becomeCancelled (wz yC_becomeCancelled bC_becomeCancelled 1 none) (rmL 0 0 0) (gP D (ck_tys k) LL f sz [.ref (aRq d j)]) (va_Qv (fun u => u = (d, sR x j (qCan (gR x j)))) (gB D (ck_tys k) (cJ k) (va_A (va_pl LL f) sz)) (va_A (va_pl LL f) sz)) 0 0 (va_A (va_pl LL f) sz) := by
  refine gMet (own := RX3) (u := (d, x)) (Qc := fun A => va_Qv (fun u => u = (d, sR x j (qCan (gR x j)))) (gB D (ck_tys k) (cJ k) A) A) (by decide) rfl hI (Nat.le_of_ble_eq_true rfl) ?_
  intro p e s m below meth c ls A hC hr hlk hnm hA hH hl
  have hx := hC.1
  have hb := hC.2.1
  have hml := hC.2.2.2.2.2
  have hts := hC.2.2.1
  have hown := hC.2.2.2.1
  have hl : lv_has ls 1 [(0, _)] := hl
  first | refine lv_aload_n hx hb dC_becomeCancelled_0 rfl (lv_at hl 0 rfl) ?_ | refine lv_aload_nN hx hb dC_becomeCancelled_0 rfl (lv_at hl 0 rfl) ?_
  refine lv_iconst (v := 3) hx hb dC_becomeCancelled_1 (by decide) ?_
  refine pC_R_state hC hH (by assumption) dC_becomeCancelled_2 (fun H locs hH => ?_)
  first | refine lv_aload_n hx hb dC_becomeCancelled_5 rfl (lv_at hl 0 rfl) ?_ | refine lv_aload_nN hx hb dC_becomeCancelled_5 rfl (lv_at hl 0 rfl) ?_
  refine lv_null hx hb dC_becomeCancelled_6 ?_
  first | refine pC_R_workerN hC hH (by assumption) dC_becomeCancelled_7 (fun H locs hH => ?_) | refine pC_R_workerR hC hH (by assumption) (by assumption) dC_becomeCancelled_7 (fun H locs hH => ?_)
  first | refine lv_aload_n hx hb dC_becomeCancelled_10 rfl (lv_at hl 0 rfl) ?_ | refine lv_aload_nN hx hb dC_becomeCancelled_10 rfl (lv_at hl 0 rfl) ?_
  refine lv_iconst (v := 0) hx hb dC_becomeCancelled_11 (by decide) ?_
  first | refine pC_R_unwanted0 hC hH (by assumption) dC_becomeCancelled_12 (fun H locs hH => ?_) | refine pC_R_unwanted1 hC hH (by assumption) dC_becomeCancelled_12 (fun H locs hH => ?_)
  exact grWv hC hr hlk hH (by simp only [sR_sR, gR_self, qCan]) dC_becomeCancelled_15
set_option maxHeartbeats 4000000 in
set_option maxRecDepth 100000 in
theorem c_waitAgain (hI : cJ k (d, x) LL f) {j : Nat} (hj : j < nR x) : Met l yC_waitAgain (wz yC_waitAgain bC_waitAgain 1 none) (rmL 1 0 0) (gP D (ck_tys k) LL f sz [.ref (aRq d j)]) (va_Qv (fun u => u = (d, sR x j (qWait (gR x j)))) (gB D (ck_tys k) (cJ k) (va_A (va_pl LL f) sz)) (va_A (va_pl LL f) sz)) 0 0 (va_A (va_pl LL f) sz) := by
  refine gMet (own := RX3) (u := (d, x)) (Qc := fun A => va_Qv (fun u => u = (d, sR x j (qWait (gR x j)))) (gB D (ck_tys k) (cJ k) A) A) (by decide) rfl hI (Nat.le_of_ble_eq_true rfl) ?_
  intro p e s m below meth c ls A hC hr hlk hnm hA hH hl
  have hx := hC.1
  have hb := hC.2.1
  have hml := hC.2.2.2.2.2
  have hts := hC.2.2.1
  have hown := hC.2.2.2.1
  have hl : lv_has ls 1 [(0, _)] := hl
  first | refine lv_aload_n hx hb dC_waitAgain_0 rfl (lv_at hl 0 rfl) ?_ | refine lv_aload_nN hx hb dC_waitAgain_0 rfl (lv_at hl 0 rfl) ?_
  refine gC_R_unwanted hC hH (by assumption) dC_waitAgain_1 ?_
  refine lv_if_eq  (tgt := 12) hx hb dC_waitAgain_4 (by decide) (fun h => ?_) (fun h => ?_)
  · first | refine lv_aload_n hx hb dC_waitAgain_12 rfl (lv_at hl 0 rfl) ?_ | refine lv_aload_nN hx hb dC_waitAgain_12 rfl (lv_at hl 0 rfl) ?_
    refine lv_iconst (v := 0) hx hb dC_waitAgain_13 (by decide) ?_
    refine pC_R_state hC hH (by assumption) dC_waitAgain_14 (fun H locs hH => ?_)
    first | refine lv_aload_n hx hb dC_waitAgain_17 rfl (lv_at hl 0 rfl) ?_ | refine lv_aload_nN hx hb dC_waitAgain_17 rfl (lv_at hl 0 rfl) ?_
    refine lv_null hx hb dC_waitAgain_18 ?_
    first | refine pC_R_workerN hC hH (by assumption) dC_waitAgain_19 (fun H locs hH => ?_) | refine pC_R_workerR hC hH (by assumption) (by assumption) dC_waitAgain_19 (fun H locs hH => ?_)
    exact grWv hC hr hlk hH (by simp only [sR_sR, gR_self, qWait, bI_0.mp h]; rfl) dC_waitAgain_22
  · first | refine lv_aload_n hx hb dC_waitAgain_7 rfl (lv_at hl 0 rfl) ?_ | refine lv_aload_nN hx hb dC_waitAgain_7 rfl (lv_at hl 0 rfl) ?_
    refine gcWSv hC hl.1 hA hH (fun LL f sz hI => c_becomeCancelled hI hj) kC_88 ⟨Nat.le_of_ble_eq_true rfl, Nat.le_of_ble_eq_true rfl⟩ dC_waitAgain_8 ⟨Nat.le_of_ble_eq_true rfl, Nat.le_of_ble_eq_true rfl⟩ rfl (Nat.le_of_ble_eq_true rfl) (fun u H locs hp hH => ?_)
    subst hp
    have h1 : rUn (gR x j) = true := by
      cases q : rUn (gR x j)
      · exact absurd (bI_0.mpr q) h
      · rfl
    exact grWv hC hr hlk hH (by simp only [qWait, h1]; rfl) dC_waitAgain_11
set_option maxHeartbeats 4000000 in
set_option maxRecDepth 100000 in
theorem c_leaveDoneR (hI : cJ k (d, x) LL f) {i j : Nat} (hi : i < nW x) (hj : j < nR x) (v : Int64) : Met l yC_leaveDone (wz yC_leaveDone bC_leaveDone 4 none) (rmL 1 0 0) (gP D (ck_tys k) LL f sz [.ref (aRq d j), .ref (aWo d i), .long v]) (va_Qv (fun u => u = (d, sR x j (qDone (gR x j) (some i) v))) (gB D (ck_tys k) (cJ k) (va_A (va_pl LL f) sz)) (va_A (va_pl LL f) sz)) 0 0 (va_A (va_pl LL f) sz) := by
  refine gMet (own := RX3) (u := (d, x)) (Qc := fun A => va_Qv (fun u => u = (d, sR x j (qDone (gR x j) (some i) v))) (gB D (ck_tys k) (cJ k) A) A) (by decide) rfl hI (Nat.le_of_ble_eq_true rfl) ?_
  intro p e s m below meth c ls A hC hr hlk hnm hA hH hl
  have hx := hC.1
  have hb := hC.2.1
  have hml := hC.2.2.2.2.2
  have hts := hC.2.2.1
  have hown := hC.2.2.2.1
  have hl : lv_has ls 4 [(0, _), (1, _), (2, _)] := hl
  first | refine lv_aload_n hx hb dC_leaveDone_0 rfl (lv_at hl 0 rfl) ?_ | refine lv_aload_nN hx hb dC_leaveDone_0 rfl (lv_at hl 0 rfl) ?_
  refine gC_R_unwanted hC hH (by assumption) dC_leaveDone_1 ?_
  refine lv_if_eq  (tgt := 12) hx hb dC_leaveDone_4 (by decide) (fun h => ?_) (fun h => ?_)
  · first | refine lv_aload_n hx hb dC_leaveDone_12 rfl (lv_at hl 0 rfl) ?_ | refine lv_aload_nN hx hb dC_leaveDone_12 rfl (lv_at hl 0 rfl) ?_
    refine lv_iconst (v := 2) hx hb dC_leaveDone_13 (by decide) ?_
    refine pC_R_state hC hH (by assumption) dC_leaveDone_14 (fun H locs hH => ?_)
    first | refine lv_aload_n hx hb dC_leaveDone_17 rfl (lv_at hl 0 rfl) ?_ | refine lv_aload_nN hx hb dC_leaveDone_17 rfl (lv_at hl 0 rfl) ?_
    first | refine lv_aload_n hx hb dC_leaveDone_18 rfl (lv_at hl 1 rfl) ?_ | refine lv_aload_nN hx hb dC_leaveDone_18 rfl (lv_at hl 1 rfl) ?_
    first | refine pC_R_workerN hC hH (by assumption) dC_leaveDone_19 (fun H locs hH => ?_) | refine pC_R_workerR hC hH (by assumption) (by assumption) dC_leaveDone_19 (fun H locs hH => ?_)
    first | refine lv_aload_n hx hb dC_leaveDone_22 rfl (lv_at hl 0 rfl) ?_ | refine lv_aload_nN hx hb dC_leaveDone_22 rfl (lv_at hl 0 rfl) ?_
    refine lv_lload_n hx hb dC_leaveDone_23 rfl (lv_at hl 2 rfl) ?_
    refine pC_R_result hC hH (by assumption) dC_leaveDone_24 (fun H locs hH => ?_)
    exact grWv hC hr hlk hH (by simp only [sR_sR, gR_self, qDone, bI_0.mp h]; rfl) dC_leaveDone_27
  · first | refine lv_aload_n hx hb dC_leaveDone_7 rfl (lv_at hl 0 rfl) ?_ | refine lv_aload_nN hx hb dC_leaveDone_7 rfl (lv_at hl 0 rfl) ?_
    refine gcWSv hC hl.1 hA hH (fun LL f sz hI => c_becomeCancelled hI hj) kC_88 ⟨Nat.le_of_ble_eq_true rfl, Nat.le_of_ble_eq_true rfl⟩ dC_leaveDone_8 ⟨Nat.le_of_ble_eq_true rfl, Nat.le_of_ble_eq_true rfl⟩ rfl (Nat.le_of_ble_eq_true rfl) (fun u H locs hp hH => ?_)
    subst hp
    have h1 : rUn (gR x j) = true := by
      cases q : rUn (gR x j)
      · exact absurd (bI_0.mpr q) h
      · rfl
    exact grWv hC hr hlk hH (by simp only [qDone, h1]; rfl) dC_leaveDone_11
set_option maxHeartbeats 4000000 in
set_option maxRecDepth 100000 in
theorem c_leaveDoneN (hI : cJ k (d, x) LL f) {j : Nat} (hj : j < nR x) (v : Int64) : Met l yC_leaveDone (wz yC_leaveDone bC_leaveDone 4 none) (rmL 1 0 0) (gP D (ck_tys k) LL f sz [.ref (aRq d j), .null, .long v]) (va_Qv (fun u => u = (d, sR x j (qDone (gR x j) none v))) (gB D (ck_tys k) (cJ k) (va_A (va_pl LL f) sz)) (va_A (va_pl LL f) sz)) 0 0 (va_A (va_pl LL f) sz) := by
  refine gMet (own := RX3) (u := (d, x)) (Qc := fun A => va_Qv (fun u => u = (d, sR x j (qDone (gR x j) none v))) (gB D (ck_tys k) (cJ k) A) A) (by decide) rfl hI (Nat.le_of_ble_eq_true rfl) ?_
  intro p e s m below meth c ls A hC hr hlk hnm hA hH hl
  have hx := hC.1
  have hb := hC.2.1
  have hml := hC.2.2.2.2.2
  have hts := hC.2.2.1
  have hown := hC.2.2.2.1
  have hl : lv_has ls 4 [(0, _), (1, _), (2, _)] := hl
  first | refine lv_aload_n hx hb dC_leaveDone_0 rfl (lv_at hl 0 rfl) ?_ | refine lv_aload_nN hx hb dC_leaveDone_0 rfl (lv_at hl 0 rfl) ?_
  refine gC_R_unwanted hC hH (by assumption) dC_leaveDone_1 ?_
  refine lv_if_eq  (tgt := 12) hx hb dC_leaveDone_4 (by decide) (fun h => ?_) (fun h => ?_)
  · first | refine lv_aload_n hx hb dC_leaveDone_12 rfl (lv_at hl 0 rfl) ?_ | refine lv_aload_nN hx hb dC_leaveDone_12 rfl (lv_at hl 0 rfl) ?_
    refine lv_iconst (v := 2) hx hb dC_leaveDone_13 (by decide) ?_
    refine pC_R_state hC hH (by assumption) dC_leaveDone_14 (fun H locs hH => ?_)
    first | refine lv_aload_n hx hb dC_leaveDone_17 rfl (lv_at hl 0 rfl) ?_ | refine lv_aload_nN hx hb dC_leaveDone_17 rfl (lv_at hl 0 rfl) ?_
    first | refine lv_aload_n hx hb dC_leaveDone_18 rfl (lv_at hl 1 rfl) ?_ | refine lv_aload_nN hx hb dC_leaveDone_18 rfl (lv_at hl 1 rfl) ?_
    first | refine pC_R_workerN hC hH (by assumption) dC_leaveDone_19 (fun H locs hH => ?_) | refine pC_R_workerR hC hH (by assumption) (by assumption) dC_leaveDone_19 (fun H locs hH => ?_)
    first | refine lv_aload_n hx hb dC_leaveDone_22 rfl (lv_at hl 0 rfl) ?_ | refine lv_aload_nN hx hb dC_leaveDone_22 rfl (lv_at hl 0 rfl) ?_
    refine lv_lload_n hx hb dC_leaveDone_23 rfl (lv_at hl 2 rfl) ?_
    refine pC_R_result hC hH (by assumption) dC_leaveDone_24 (fun H locs hH => ?_)
    exact grWv hC hr hlk hH (by simp only [sR_sR, gR_self, qDone, bI_0.mp h]; rfl) dC_leaveDone_27
  · first | refine lv_aload_n hx hb dC_leaveDone_7 rfl (lv_at hl 0 rfl) ?_ | refine lv_aload_nN hx hb dC_leaveDone_7 rfl (lv_at hl 0 rfl) ?_
    refine gcWSv hC hl.1 hA hH (fun LL f sz hI => c_becomeCancelled hI hj) kC_88 ⟨Nat.le_of_ble_eq_true rfl, Nat.le_of_ble_eq_true rfl⟩ dC_leaveDone_8 ⟨Nat.le_of_ble_eq_true rfl, Nat.le_of_ble_eq_true rfl⟩ rfl (Nat.le_of_ble_eq_true rfl) (fun u H locs hp hH => ?_)
    subst hp
    have h1 : rUn (gR x j) = true := by
      cases q : rUn (gR x j)
      · exact absurd (bI_0.mpr q) h
      · rfl
    exact grWv hC hr hlk hH (by simp only [qDone, h1]; rfl) dC_leaveDone_11
def zEndRe (x : cs_S) (i : Nat) (y : Int32) : cs_S := match wRq (gW x i) with
  | none => sW x i (wEn_ (wRq_ (gW x i) none) y)
  | some j => sR (sW x i (wEn_ (wRq_ (gW x i) none) y)) j (qWait (gR x j))
set_option maxHeartbeats 4000000 in
set_option maxRecDepth 100000 in
theorem c_endAndRequeue (hI : cJ k (d, x) LL f) {i : Nat} (hi : i < nW x) (y : Int32) : Met l yC_endAndRequeue (wz yC_endAndRequeue bC_endAndRequeue 3 none) (rmL 2 0 0) (gP D (ck_tys k) LL f sz [.ref (aWo d i), .int y]) (va_Qv (fun u => u = (d, zEndRe x i y)) (gB D (ck_tys k) (cJ k) (va_A (va_pl LL f) sz)) (va_A (va_pl LL f) sz)) 0 0 (va_A (va_pl LL f) sz) := by
  refine gMet (own := RX3) (u := (d, x)) (Qc := fun A => va_Qv (fun u => u = (d, zEndRe x i y)) (gB D (ck_tys k) (cJ k) A) A) (by decide) rfl hI (Nat.le_of_ble_eq_true rfl) ?_
  intro p e s m below meth c ls A hC hr hlk hnm hA hH hl
  have hx := hC.1
  have hb := hC.2.1
  have hml := hC.2.2.2.2.2
  have hts := hC.2.2.1
  have hown := hC.2.2.2.1
  have hl : lv_has ls 3 [(0, _), (1, _)] := hl
  first | refine lv_aload_n hx hb dC_endAndRequeue_0 rfl (lv_at hl 0 rfl) ?_ | refine lv_aload_nN hx hb dC_endAndRequeue_0 rfl (lv_at hl 0 rfl) ?_
  refine gC_W_request hC hH (by assumption) dC_endAndRequeue_1 ?_
  rcases hq : wRq (gW x i) with _ | j
  · first | refine lv_astore_n hx hb dC_endAndRequeue_4 rfl hl (by decide) rfl (fun ls hl => ?_) | refine lv_astore_nN hx hb dC_endAndRequeue_4 rfl hl (by decide) rfl (fun ls hl => ?_)
    have hl : lv_has ls 3 [(2, _), (0, _), (1, _)] := hl
    first | refine lv_aload_n hx hb dC_endAndRequeue_5 rfl (lv_at hl 1 rfl) ?_ | refine lv_aload_nN hx hb dC_endAndRequeue_5 rfl (lv_at hl 1 rfl) ?_
    refine lv_null hx hb dC_endAndRequeue_6 ?_
    first | refine pC_W_requestN hC hH (by assumption) dC_endAndRequeue_7 (fun H locs hH => ?_) | refine pC_W_requestR hC hH (by assumption) (by assumption) dC_endAndRequeue_7 (fun H locs hH => ?_)
    first | refine lv_aload_n hx hb dC_endAndRequeue_10 rfl (lv_at hl 1 rfl) ?_ | refine lv_aload_nN hx hb dC_endAndRequeue_10 rfl (lv_at hl 1 rfl) ?_
    refine lv_iload_n hx hb dC_endAndRequeue_11 rfl (lv_at hl 2 rfl) ?_
    refine pC_W_endedBy hC hH (by assumption) dC_endAndRequeue_12 (fun H locs hH => ?_)
    first | refine lv_aload_n hx hb dC_endAndRequeue_15 rfl (lv_at hl 0 rfl) ?_ | refine lv_aload_nN hx hb dC_endAndRequeue_15 rfl (lv_at hl 0 rfl) ?_
    first | refine lv_ifnull hx hb dC_endAndRequeue_16 ?_ | refine lv_ifnullN (tgt := 23) hx hb dC_endAndRequeue_16 (by decide) ?_
    exact grWv hC hr hlk hH (by simp only [sW_sW, gW_self, zEndRe, hq]) dC_endAndRequeue_23
  · have hj := ((cG.ok hH).2.1 i hi).2 j hq
    first | refine lv_astore_n hx hb dC_endAndRequeue_4 rfl hl (by decide) rfl (fun ls hl => ?_) | refine lv_astore_nN hx hb dC_endAndRequeue_4 rfl hl (by decide) rfl (fun ls hl => ?_)
    have hl : lv_has ls 3 [(2, _), (0, _), (1, _)] := hl
    first | refine lv_aload_n hx hb dC_endAndRequeue_5 rfl (lv_at hl 1 rfl) ?_ | refine lv_aload_nN hx hb dC_endAndRequeue_5 rfl (lv_at hl 1 rfl) ?_
    refine lv_null hx hb dC_endAndRequeue_6 ?_
    first | refine pC_W_requestN hC hH (by assumption) dC_endAndRequeue_7 (fun H locs hH => ?_) | refine pC_W_requestR hC hH (by assumption) (by assumption) dC_endAndRequeue_7 (fun H locs hH => ?_)
    first | refine lv_aload_n hx hb dC_endAndRequeue_10 rfl (lv_at hl 1 rfl) ?_ | refine lv_aload_nN hx hb dC_endAndRequeue_10 rfl (lv_at hl 1 rfl) ?_
    refine lv_iload_n hx hb dC_endAndRequeue_11 rfl (lv_at hl 2 rfl) ?_
    refine pC_W_endedBy hC hH (by assumption) dC_endAndRequeue_12 (fun H locs hH => ?_)
    first | refine lv_aload_n hx hb dC_endAndRequeue_15 rfl (lv_at hl 0 rfl) ?_ | refine lv_aload_nN hx hb dC_endAndRequeue_15 rfl (lv_at hl 0 rfl) ?_
    first | refine lv_ifnull hx hb dC_endAndRequeue_16 ?_ | refine lv_ifnullN (tgt := 23) hx hb dC_endAndRequeue_16 (by decide) ?_
    first | refine lv_aload_n hx hb dC_endAndRequeue_19 rfl (lv_at hl 0 rfl) ?_ | refine lv_aload_nN hx hb dC_endAndRequeue_19 rfl (lv_at hl 0 rfl) ?_
    refine gcWSv hC hl.1 hA hH (fun LL f sz hI => c_waitAgain (j := j) hI hj) kC_207 ⟨Nat.le_of_ble_eq_true rfl, Nat.le_of_ble_eq_true rfl⟩ dC_endAndRequeue_20 ⟨Nat.le_of_ble_eq_true rfl, Nat.le_of_ble_eq_true rfl⟩ rfl (Nat.le_of_ble_eq_true rfl) (fun u H locs hp hH => ?_)
    subst hp
    exact grWv hC hr hlk hH (by simp only [sW_sW, gW_self, zEndRe, hq]) dC_endAndRequeue_23
def zBegin (x : cs_S) (j i : Nat) : cs_S := sR (sW x i (wRq_ (gW x i) (some j))) j (rBe_ (rSt_ (rWk_ (gR x j) (some i)) 1) (rBe (gR x j) + 1))
set_option maxHeartbeats 4000000 in
set_option maxRecDepth 100000 in
theorem c_beginWith (hI : cJ k (d, x) LL f) {i j : Nat} (hi : i < nW x) (hj : j < nR x) : Met l yC_beginWith (wz yC_beginWith bC_beginWith 2 none) (rmL 0 0 0) (gP D (ck_tys k) LL f sz [.ref (aRq d j), .ref (aWo d i)]) (va_Qv (fun u => u = (d, zBegin x j i)) (gB D (ck_tys k) (cJ k) (va_A (va_pl LL f) sz)) (va_A (va_pl LL f) sz)) 0 0 (va_A (va_pl LL f) sz) := by
  refine gMet (own := RX3) (u := (d, x)) (Qc := fun A => va_Qv (fun u => u = (d, zBegin x j i)) (gB D (ck_tys k) (cJ k) A) A) (by decide) rfl hI (Nat.le_of_ble_eq_true rfl) ?_
  intro p e s m below meth c ls A hC hr hlk hnm hA hH hl
  have hx := hC.1
  have hb := hC.2.1
  have hml := hC.2.2.2.2.2
  have hts := hC.2.2.1
  have hown := hC.2.2.2.1
  have hl : lv_has ls 2 [(0, _), (1, _)] := hl
  first | refine lv_aload_n hx hb dC_beginWith_0 rfl (lv_at hl 1 rfl) ?_ | refine lv_aload_nN hx hb dC_beginWith_0 rfl (lv_at hl 1 rfl) ?_
  first | refine lv_aload_n hx hb dC_beginWith_1 rfl (lv_at hl 0 rfl) ?_ | refine lv_aload_nN hx hb dC_beginWith_1 rfl (lv_at hl 0 rfl) ?_
  first | refine pC_W_requestN hC hH (by assumption) dC_beginWith_2 (fun H locs hH => ?_) | refine pC_W_requestR hC hH (by assumption) (by assumption) dC_beginWith_2 (fun H locs hH => ?_)
  first | refine lv_aload_n hx hb dC_beginWith_5 rfl (lv_at hl 0 rfl) ?_ | refine lv_aload_nN hx hb dC_beginWith_5 rfl (lv_at hl 0 rfl) ?_
  first | refine lv_aload_n hx hb dC_beginWith_6 rfl (lv_at hl 1 rfl) ?_ | refine lv_aload_nN hx hb dC_beginWith_6 rfl (lv_at hl 1 rfl) ?_
  first | refine pC_R_workerN hC hH (by assumption) dC_beginWith_7 (fun H locs hH => ?_) | refine pC_R_workerR hC hH (by assumption) (by assumption) dC_beginWith_7 (fun H locs hH => ?_)
  first | refine lv_aload_n hx hb dC_beginWith_10 rfl (lv_at hl 0 rfl) ?_ | refine lv_aload_nN hx hb dC_beginWith_10 rfl (lv_at hl 0 rfl) ?_
  refine lv_iconst (v := 1) hx hb dC_beginWith_11 (by decide) ?_
  refine pC_R_state hC hH (by assumption) dC_beginWith_12 (fun H locs hH => ?_)
  first | refine lv_aload_n hx hb dC_beginWith_15 rfl (lv_at hl 0 rfl) ?_ | refine lv_aload_nN hx hb dC_beginWith_15 rfl (lv_at hl 0 rfl) ?_
  refine lv_dup hx hb dC_beginWith_16 rfl ?_
  refine gC_R_begun hC hH (by assumption) dC_beginWith_17 ?_
  refine lv_iconst (v := 1) hx hb dC_beginWith_20 (by decide) ?_
  refine lv_iadd hx hb dC_beginWith_21 ?_
  refine pC_R_begun hC hH (by assumption) dC_beginWith_22 (fun H locs hH => ?_)
  exact grWv hC hr hlk hH (by simp only [sR_sR, gR_self, zBegin]) dC_beginWith_25
end C2
end
section
section C3
variable {l : Launch} {D : va_G} {k : ck_F} {d : ck_A} {x : cs_S} {LL : List Nat} {f : Nat → va_E} {sz : Nat}
/-- the first free worker of a tool, from i on -/
def ffr (x : cs_S) (t : Nat) : Nat → Nat → Option Nat
  | 0, _ => none
  | n + 1, i => if i < nW x ∧ wTo (gW x i) = t ∧ zSt (gW x i) = 0 then some i else ffr x t n (i + 1)
/-- how many workers of a tool, of the first i, aren't ended -/
def cst (x : cs_S) (t : Nat) : Nat → Int32
  | 0 => 0
  | i + 1 => if i < nW x ∧ wTo (gW x i) = t ∧ wEn (gW x i) = 0 then cst x t i + 1 else cst x t i
set_option maxHeartbeats 4000000 in
set_option maxRecDepth 100000 in
theorem c_firstFree (hI : cJ k (d, x) LL f) {t : Nat} (ht : t < nT x) : Met l yC_firstFree (wz yC_firstFree bC_firstFree 6 (some (.object "WorkerRows$Worker"))) (rmL 2 0 0) (gP D (ck_tys k) LL f sz [.ref (kO k), .ref (aTo d t)]) (va_Sq (fun r => r = (ffr x t 60 0).map (aWo d))) 0 0 (fun _ => False) := by
  refine gMetR (own := RX3) (u := (d, x)) (by decide) rfl hI (Nat.le_of_ble_eq_true rfl) ?_
  intro p e s m below meth c ls hC hr hlk hH hl
  have hn := (cG.ok hH).1.2.1
  have hx := hC.1
  have hb := hC.2.1
  have hml := hC.2.2.2.2.2
  have hts := hC.2.2.1
  have hown := hC.2.2.2.1
  have hl : lv_has ls 6 [(0, _), (1, _)] := hl
  first | refine lv_aload_n hx hb dC_firstFree_0 rfl (lv_at hl 0 rfl) ?_ | refine lv_aload_nN hx hb dC_firstFree_0 rfl (lv_at hl 0 rfl) ?_
  refine gC_C_workers hC hH dC_firstFree_1 ?_
  first | refine lv_astore_n hx hb dC_firstFree_4 rfl hl (by decide) rfl (fun ls hl => ?_) | refine lv_astore_nN hx hb dC_firstFree_4 rfl hl (by decide) rfl (fun ls hl => ?_)
  have hl : lv_has ls 6 [(2, _), (0, _), (1, _)] := hl
  first | refine lv_aload_n hx hb dC_firstFree_5 rfl (lv_at hl 0 rfl) ?_ | refine lv_aload_nN hx hb dC_firstFree_5 rfl (lv_at hl 0 rfl) ?_
  first | refine lC_T hC hH dC_firstFree_6 ?_ | refine lC_W hC hH dC_firstFree_6 ?_ | refine lC_R hC hH dC_firstFree_6 ?_
  refine lv_istore_n hx hb dC_firstFree_7 rfl hl (by decide) rfl (fun ls hl => ?_)
  have hl : lv_has ls 6 [(3, _), (2, _), (0, _), (1, _)] := hl
  refine lv_iconst (v := 0) hx hb dC_firstFree_8 (by decide) ?_
  refine lv_istore hx hb dC_firstFree_9 hl (by decide) rfl (fun ls hl => ?_)
  have hl : lv_has ls 6 [(4, _), (3, _), (2, _), (0, _), (1, _)] := hl
  refine (?_ : ∀ (n i : Nat) (v : Int32) (ls : Array Slot), i + n = 60 → v = nI i → ffr x t 60 0 = ffr x t n i → lv_has ls 6 [(0, .ref (kO k)), (1, .ref (aTo d t)), (2, .ref (kWs k)), (3, .int 60), (4, .int v)] → W p l e _ s m _ below meth c s.heap [] 0 0 _ (F0 m 11 ls [])) 60 0 0 ls rfl rfl rfl (lv_sub hl [3, 4, 2, 1, 0] rfl)
  intro n
  induction n with
  | zero =>
    intro i v ls hin hv hff hl
    refine lv_iload hx hb dC_firstFree_11 (lv_at hl 4 rfl) ?_
    refine lv_iload_n hx hb dC_firstFree_13 rfl (lv_at hl 3 rfl) ?_
    refine lv_icmp_ge  (tgt := 54) hx hb dC_firstFree_14 (by decide) (fun h => ?_) (fun h => ?_)
    · refine lv_null hx hb dC_firstFree_54 ?_
      exact grSq (v := none) hC hr hlk (by rw [hff]; rfl) dC_firstFree_55
    · exact absurd (by rw [hv]; exact nI_le (a := 60) (by omega) (by omega)) h
  | succ n ih =>
    intro i v ls hin hv hff hl
    refine lv_iload hx hb dC_firstFree_11 (lv_at hl 4 rfl) ?_
    refine lv_iload_n hx hb dC_firstFree_13 rfl (lv_at hl 3 rfl) ?_
    refine lv_icmp_ge  (tgt := 54) hx hb dC_firstFree_14 (by decide) (fun h => ?_) (fun h => ?_)
    · exact absurd h (by rw [hv]; exact nI_ge (b := 60) (by omega) (by decide))
    · first | refine lv_aload_n hx hb dC_firstFree_17 rfl (lv_at hl 2 rfl) ?_ | refine lv_aload_nN hx hb dC_firstFree_17 rfl (lv_at hl 2 rfl) ?_
      refine lv_iload hx hb dC_firstFree_18 (lv_at hl 4 rfl) ?_
      by_cases hi : i < nW x
      · refine aC_W hC hH hi hv dC_firstFree_20 ?_
        have hti := ((cG.ok hH).2.1 i hi).1
        first | refine lv_astore hx hb dC_firstFree_21 hl (by decide) rfl (fun ls hl => ?_) | refine lv_astoreN hx hb dC_firstFree_21 hl (by decide) rfl (fun ls hl => ?_)
        have hl : lv_has ls 6 [(5, _), (0, _), (1, _), (2, _), (3, _), (4, _)] := hl
        first | refine lv_aload hx hb dC_firstFree_23 (lv_at hl 0 rfl) ?_ | refine lv_aloadN hx hb dC_firstFree_23 (lv_at hl 0 rfl) ?_
        first | refine lv_ifnull hx hb dC_firstFree_25 ?_ | refine lv_ifnullN (tgt := 48) hx hb dC_firstFree_25 (by decide) ?_
        first | refine lv_aload hx hb dC_firstFree_28 (lv_at hl 0 rfl) ?_ | refine lv_aloadN hx hb dC_firstFree_28 (lv_at hl 0 rfl) ?_
        refine gC_W_tool hC hH (by assumption) dC_firstFree_30 ?_
        first | refine lv_aload_n hx hb dC_firstFree_33 rfl (lv_at hl 2 rfl) ?_ | refine lv_aload_nN hx hb dC_firstFree_33 rfl (lv_at hl 2 rfl) ?_
        refine lv_acmp_ne (rx := some (aTo d (wTo (gW x i)))) (ry := some (aTo d t)) (tgt := 48) hx hb dC_firstFree_34 (by decide) (fun h1 => ?_) (fun h1 => ?_)
        · refine lv_iinc hx hb dC_firstFree_48 hl (k := 5) rfl rfl (by decide) rfl (fun ls hl => ?_)
          have hl : lv_has ls 6 [(4, _), (5, _), (0, _), (1, _), (2, _), (3, _)] := hl
          refine lv_goto (tgt := 11) hx hb dC_firstFree_51 (by decide) ?_
          exact ih (i + 1) _ ls (by omega) (by rw [hv]; exact nI_1 i) (hff.trans (if_neg (fun q => h1 (by rw [q.2.1])))) (lv_sub hl [2, 3, 4, 5, 0] rfl)
        · have h2 : wTo (gW x i) = t := cG.injT hH hti ht (Option.some.inj h1)
          first | refine lv_aload hx hb dC_firstFree_37 (lv_at hl 0 rfl) ?_ | refine lv_aloadN hx hb dC_firstFree_37 (lv_at hl 0 rfl) ?_
          refine gcSi hC hl.1 hH (fun LL f sz hI => c_stateOf hI hi) kC_146 ⟨Nat.le_of_ble_eq_true rfl, Nat.le_of_ble_eq_true rfl⟩ dC_firstFree_39 ⟨Nat.le_of_ble_eq_true rfl, Nat.le_of_ble_eq_true rfl⟩ rfl (Nat.le_of_ble_eq_true rfl) (fun r hr1 => ?_)
          refine lv_if_ne  (tgt := 48) hx hb dC_firstFree_42 (by decide) (fun h3 => ?_) (fun h3 => ?_)
          · refine lv_iinc hx hb dC_firstFree_48 hl (k := 5) rfl rfl (by decide) rfl (fun ls hl => ?_)
            have hl : lv_has ls 6 [(4, _), (5, _), (0, _), (1, _), (2, _), (3, _)] := hl
            refine lv_goto (tgt := 11) hx hb dC_firstFree_51 (by decide) ?_
            exact ih (i + 1) _ ls (by omega) (by rw [hv]; exact nI_1 i) (hff.trans (if_neg (fun q => h3 (by rw [hr1]; exact q.2.2)))) (lv_sub hl [2, 3, 4, 5, 0] rfl)
          · first | refine lv_aload hx hb dC_firstFree_45 (lv_at hl 0 rfl) ?_ | refine lv_aloadN hx hb dC_firstFree_45 (lv_at hl 0 rfl) ?_
            exact grSq (v := some (aWo d i)) hC hr hlk (by rw [hff, show ffr x t (n + 1) i = some i from if_pos ⟨hi, h2, by rw [← hr1]; exact h3⟩]; rfl) dC_firstFree_47
      · refine aC_WN hC hH hi (by omega) hv dC_firstFree_20 ?_
        first | refine lv_astore hx hb dC_firstFree_21 hl (by decide) rfl (fun ls hl => ?_) | refine lv_astoreN hx hb dC_firstFree_21 hl (by decide) rfl (fun ls hl => ?_)
        have hl : lv_has ls 6 [(5, _), (0, _), (1, _), (2, _), (3, _), (4, _)] := hl
        first | refine lv_aload hx hb dC_firstFree_23 (lv_at hl 0 rfl) ?_ | refine lv_aloadN hx hb dC_firstFree_23 (lv_at hl 0 rfl) ?_
        first | refine lv_ifnull hx hb dC_firstFree_25 ?_ | refine lv_ifnullN (tgt := 48) hx hb dC_firstFree_25 (by decide) ?_
        refine lv_iinc hx hb dC_firstFree_48 hl (k := 5) rfl rfl (by decide) rfl (fun ls hl => ?_)
        have hl : lv_has ls 6 [(4, _), (5, _), (0, _), (1, _), (2, _), (3, _)] := hl
        refine lv_goto (tgt := 11) hx hb dC_firstFree_51 (by decide) ?_
        exact ih (i + 1) _ ls (by omega) (by rw [hv]; exact nI_1 i) (hff.trans (if_neg (fun q => hi q.1))) (lv_sub hl [2, 3, 4, 5, 0] rfl)
set_option maxHeartbeats 4000000 in
set_option maxRecDepth 100000 in
theorem c_countStaying (hI : cJ k (d, x) LL f) {t : Nat} (ht : t < nT x) : Met l yC_countStaying (wz yC_countStaying bC_countStaying 7 (some .int)) (rmL 1 0 0) (gP D (ck_tys k) LL f sz [.ref (kO k), .ref (aTo d t)]) (vp_Si (fun r => r = cst x t 60)) 0 0 (fun _ => False) := by
  refine gMetR (own := RX3) (u := (d, x)) (by decide) rfl hI (Nat.le_of_ble_eq_true rfl) ?_
  intro p e s m below meth c ls hC hr hlk hH hl
  have hn := (cG.ok hH).1.2.1
  have hx := hC.1
  have hb := hC.2.1
  have hml := hC.2.2.2.2.2
  have hts := hC.2.2.1
  have hown := hC.2.2.2.1
  have hl : lv_has ls 7 [(0, _), (1, _)] := hl
  refine lv_iconst (v := 0) hx hb dC_countStaying_0 (by decide) ?_
  refine lv_istore_n hx hb dC_countStaying_1 rfl hl (by decide) rfl (fun ls hl => ?_)
  have hl : lv_has ls 7 [(2, _), (0, _), (1, _)] := hl
  first | refine lv_aload_n hx hb dC_countStaying_2 rfl (lv_at hl 1 rfl) ?_ | refine lv_aload_nN hx hb dC_countStaying_2 rfl (lv_at hl 1 rfl) ?_
  refine gC_C_workers hC hH dC_countStaying_3 ?_
  first | refine lv_astore_n hx hb dC_countStaying_6 rfl hl (by decide) rfl (fun ls hl => ?_) | refine lv_astore_nN hx hb dC_countStaying_6 rfl hl (by decide) rfl (fun ls hl => ?_)
  have hl : lv_has ls 7 [(3, _), (2, _), (0, _), (1, _)] := hl
  first | refine lv_aload_n hx hb dC_countStaying_7 rfl (lv_at hl 0 rfl) ?_ | refine lv_aload_nN hx hb dC_countStaying_7 rfl (lv_at hl 0 rfl) ?_
  first | refine lC_T hC hH dC_countStaying_8 ?_ | refine lC_W hC hH dC_countStaying_8 ?_ | refine lC_R hC hH dC_countStaying_8 ?_
  refine lv_istore hx hb dC_countStaying_9 hl (by decide) rfl (fun ls hl => ?_)
  have hl : lv_has ls 7 [(4, _), (3, _), (2, _), (0, _), (1, _)] := hl
  refine lv_iconst (v := 0) hx hb dC_countStaying_11 (by decide) ?_
  refine lv_istore hx hb dC_countStaying_12 hl (by decide) rfl (fun ls hl => ?_)
  have hl : lv_has ls 7 [(5, _), (4, _), (3, _), (2, _), (0, _), (1, _)] := hl
  refine (?_ : ∀ (n i : Nat) (v w : Int32) (ls : Array Slot), i + n = 60 → v = nI i → w = cst x t i → lv_has ls 7 [(0, .ref (kO k)), (1, .ref (aTo d t)), (2, .int w), (3, .ref (kWs k)), (4, .int 60), (5, .int v)] → W p l e _ s m _ below meth c s.heap [] 0 0 _ (F0 m 14 ls [])) 60 0 0 0 ls rfl rfl rfl (lv_sub hl [4, 5, 3, 2, 1, 0] rfl)
  intro n
  induction n with
  | zero =>
    intro i v w ls hin hv hw hl
    refine lv_iload hx hb dC_countStaying_14 (lv_at hl 5 rfl) ?_
    refine lv_iload hx hb dC_countStaying_16 (lv_at hl 4 rfl) ?_
    refine lv_icmp_ge  (tgt := 58) hx hb dC_countStaying_18 (by decide) (fun h => ?_) (fun h => ?_)
    · refine lv_iload_n hx hb dC_countStaying_58 rfl (lv_at hl 2 rfl) ?_
      exact grSi hC hr hlk rfl (by rw [hw, show i = 60 by omega]) dC_countStaying_59
    · exact absurd (by rw [hv]; exact nI_le (a := 60) (by omega) (by omega)) h
  | succ n ih =>
    intro i v w ls hin hv hw hl
    refine lv_iload hx hb dC_countStaying_14 (lv_at hl 5 rfl) ?_
    refine lv_iload hx hb dC_countStaying_16 (lv_at hl 4 rfl) ?_
    refine lv_icmp_ge  (tgt := 58) hx hb dC_countStaying_18 (by decide) (fun h => ?_) (fun h => ?_)
    · exact absurd h (by rw [hv]; exact nI_ge (b := 60) (by omega) (by decide))
    · first | refine lv_aload_n hx hb dC_countStaying_21 rfl (lv_at hl 3 rfl) ?_ | refine lv_aload_nN hx hb dC_countStaying_21 rfl (lv_at hl 3 rfl) ?_
      refine lv_iload hx hb dC_countStaying_22 (lv_at hl 5 rfl) ?_
      by_cases hi : i < nW x
      · refine aC_W hC hH hi hv dC_countStaying_24 ?_
        have hti := ((cG.ok hH).2.1 i hi).1
        first | refine lv_astore hx hb dC_countStaying_25 hl (by decide) rfl (fun ls hl => ?_) | refine lv_astoreN hx hb dC_countStaying_25 hl (by decide) rfl (fun ls hl => ?_)
        have hl : lv_has ls 7 [(6, _), (0, _), (1, _), (2, _), (3, _), (4, _), (5, _)] := hl
        first | refine lv_aload hx hb dC_countStaying_27 (lv_at hl 0 rfl) ?_ | refine lv_aloadN hx hb dC_countStaying_27 (lv_at hl 0 rfl) ?_
        first | refine lv_ifnull hx hb dC_countStaying_29 ?_ | refine lv_ifnullN (tgt := 52) hx hb dC_countStaying_29 (by decide) ?_
        first | refine lv_aload hx hb dC_countStaying_32 (lv_at hl 0 rfl) ?_ | refine lv_aloadN hx hb dC_countStaying_32 (lv_at hl 0 rfl) ?_
        refine gC_W_tool hC hH (by assumption) dC_countStaying_34 ?_
        first | refine lv_aload_n hx hb dC_countStaying_37 rfl (lv_at hl 2 rfl) ?_ | refine lv_aload_nN hx hb dC_countStaying_37 rfl (lv_at hl 2 rfl) ?_
        refine lv_acmp_ne (rx := some (aTo d (wTo (gW x i)))) (ry := some (aTo d t)) (tgt := 52) hx hb dC_countStaying_38 (by decide) (fun h1 => ?_) (fun h1 => ?_)
        · refine lv_iinc hx hb dC_countStaying_52 hl (k := 6) rfl rfl (by decide) rfl (fun ls hl => ?_)
          have hl : lv_has ls 7 [(5, _), (6, _), (0, _), (1, _), (2, _), (3, _), (4, _)] := hl
          refine lv_goto (tgt := 14) hx hb dC_countStaying_55 (by decide) ?_
          exact ih (i + 1) _ _ ls (by omega) (by rw [hv]; exact nI_1 i) (hw.trans (if_neg (fun q => h1 (by rw [q.2.1]))).symm) (lv_sub hl [2, 3, 4, 5, 6, 0] rfl)
        · have h2 : wTo (gW x i) = t := cG.injT hH hti ht (Option.some.inj h1)
          first | refine lv_aload hx hb dC_countStaying_41 (lv_at hl 0 rfl) ?_ | refine lv_aloadN hx hb dC_countStaying_41 (lv_at hl 0 rfl) ?_
          refine gcSi hC hl.1 hH (fun LL f sz hI => c_isEnded hI hi) kC_63 ⟨Nat.le_of_ble_eq_true rfl, Nat.le_of_ble_eq_true rfl⟩ dC_countStaying_43 ⟨Nat.le_of_ble_eq_true rfl, Nat.le_of_ble_eq_true rfl⟩ rfl (Nat.le_of_ble_eq_true rfl) (fun r hr1 => ?_)
          refine lv_if_ne  (tgt := 52) hx hb dC_countStaying_46 (by decide) (fun h3 => ?_) (fun h3 => ?_)
          · refine lv_iinc hx hb dC_countStaying_52 hl (k := 6) rfl rfl (by decide) rfl (fun ls hl => ?_)
            have hl : lv_has ls 7 [(5, _), (6, _), (0, _), (1, _), (2, _), (3, _), (4, _)] := hl
            refine lv_goto (tgt := 14) hx hb dC_countStaying_55 (by decide) ?_
            exact ih (i + 1) _ _ ls (by omega) (by rw [hv]; exact nI_1 i) (hw.trans (if_neg (fun q => h3 (by rw [hr1]; exact if_pos q.2.2))).symm) (lv_sub hl [2, 3, 4, 5, 6, 0] rfl)
          · have h4 : wEn (gW x i) = 0 := Classical.byContradiction (fun q => by
              rw [hr1, zEnd, if_neg q] at h3
              exact absurd h3 (by decide))
            refine lv_iinc hx hb dC_countStaying_49 hl (k := 3) rfl rfl (by decide) rfl (fun ls hl => ?_)
            have hl : lv_has ls 7 [(2, _), (6, _), (0, _), (1, _), (3, _), (4, _), (5, _)] := hl
            refine lv_iinc hx hb dC_countStaying_52 hl (k := 6) rfl rfl (by decide) rfl (fun ls hl => ?_)
            have hl : lv_has ls 7 [(5, _), (2, _), (6, _), (0, _), (1, _), (3, _), (4, _)] := hl
            refine lv_goto (tgt := 14) hx hb dC_countStaying_55 (by decide) ?_
            exact ih (i + 1) _ _ ls (by omega) (by rw [hv]; exact nI_1 i) (by rw [hw]; exact (if_pos (c := i < nW x ∧ wTo (gW x i) = t ∧ wEn (gW x i) = 0) ⟨hi, h2, h4⟩).symm) (lv_sub hl [3, 4, 1, 5, 6, 0] rfl)
      · refine aC_WN hC hH hi (by omega) hv dC_countStaying_24 ?_
        first | refine lv_astore hx hb dC_countStaying_25 hl (by decide) rfl (fun ls hl => ?_) | refine lv_astoreN hx hb dC_countStaying_25 hl (by decide) rfl (fun ls hl => ?_)
        have hl : lv_has ls 7 [(6, _), (0, _), (1, _), (2, _), (3, _), (4, _), (5, _)] := hl
        first | refine lv_aload hx hb dC_countStaying_27 (lv_at hl 0 rfl) ?_ | refine lv_aloadN hx hb dC_countStaying_27 (lv_at hl 0 rfl) ?_
        first | refine lv_ifnull hx hb dC_countStaying_29 ?_ | refine lv_ifnullN (tgt := 52) hx hb dC_countStaying_29 (by decide) ?_
        refine lv_iinc hx hb dC_countStaying_52 hl (k := 6) rfl rfl (by decide) rfl (fun ls hl => ?_)
        have hl : lv_has ls 7 [(5, _), (6, _), (0, _), (1, _), (2, _), (3, _), (4, _)] := hl
        refine lv_goto (tgt := 14) hx hb dC_countStaying_55 (by decide) ?_
        exact ih (i + 1) _ _ ls (by omega) (by rw [hv]; exact nI_1 i) (hw.trans (if_neg (fun q => hi q.1)).symm) (lv_sub hl [2, 3, 4, 5, 6, 0] rfl)
end C3
end
section
/-! RAW POOLS (for objects under way) and NEW objects -/
def rI (LL : List Nat) : (Nat → va_E) → List Nat → (Nat → va_E) → Prop := fun g L f => L = LL ∧ f = g
section RP
variable {p : Program} {l : Launch} {e : Env} {R : Room} {s : State} {m : MethodId} {args : Array Value} {below : List Frame} {meth : Method} {c : Code} {H : Heap} {locs : List Loc} {cells slots : Nat} {Q : State → Prop}
variable {cc : ByteArray} {pc nL : Nat} {ls : Array Slot} {rest st : List Value} {D : va_G} {A : Nat → Prop} {tys : List (ClassId × FieldType)} {H0 : Heap} {own : String} {LL : List Nat} {g : Nat → va_E} {a : Nat} {σ : Type} {I : σ → List Nat → (Nat → va_E) → Prop} {u : σ}
theorem gH.to (hH : gH D (rI LL) g A H0 H locs) (h : I u LL g) : gH D I u A H0 H locs := by
  obtain ⟨L, f, ⟨rfl, rfl⟩, h1, h2, h3⟩ := hH
  exact ⟨L, f, h, h1, h2, h3⟩
theorem rp_get (hC : gX own tys D p s m args c cc nL) (hH : gH D (rI LL) g A H0 H locs) {C : String} {T : u_T} {N ci index : Nat} (hin : ∀ w ∈ u_ws C T N, w ∈ wA) {fs : List Value} (ha : a ∈ LL) (hf : g a = .inr (ci, fs)) (hc : vwCl[ci]? = some (C, T, N)) (k : Nat) (hk : k < N) (hlink : Cond.fieldLink own index (T k).1 (T k).2.1 (T k).2.2.1 ∈ wA) {v : Value} (hv : fs[k]? = some v) (hdg : decode cc pc = .ok (.getfield index, 3))
    (kk : W p l e R s m args below meth c H locs cells slots Q (F0 m (pc + 3) ls (v :: rest))) : W p l e R s m args below meth c H locs cells slots Q (F0 m pc ls (.ref a :: rest)) := by
  obtain ⟨L, f, ⟨rfl, rfl⟩, hP, hD, hS⟩ := hH
  exact pw_get hC.1 hC.2.1 hC.2.2.1 hin hC.2.2.2.1 hC.2.2.2.2.1 hP ha hf hc k hk (hC.2.2.1 _ hlink) hv hdg kk
theorem rp_put (hC : gX own tys D p s m args c cc nL) (hH : gH D (rI LL) g A H0 H locs) {C : String} {T : u_T} {N ci index : Nat} (hin : ∀ w ∈ u_ws C T N, w ∈ wA) (ty0 : Nat → FieldType) (hty : ∀ k, k < N → parseFieldDescriptor (T k).2.2.1 = some (ty0 k)) (hnm : ∀ a, a < N → ∀ b, b < N → a ≠ b → (T a).2.1 ≠ (T b).2.1) {fs : List Value} (ha : a ∈ LL) (hf : g a = .inr (ci, fs)) (hc : vwCl[ci]? = some (C, T, N)) (k : Nat) (hk : k < N) (hlink : Cond.fieldLink own index (T k).1 (T k).2.1 (T k).2.2.1 ∈ wA) (hfin : (T k).2.2.2 = false) {v : Value} (hn : narrow (ty0 k) v = v) (hfit : fits (ty0 k) v = true) (hl : k < fs.length) (hdg : decode cc pc = .ok (.putfield index, 3))
    (kk : ∀ (H1 : Heap) (locs1 : List Loc), gH D (rI LL) (va_up g a (.inr (ci, fs.set k v))) A H0 H1 locs1 → W p l e R s m args below meth c H1 locs1 cells slots Q (F0 m (pc + 3) ls rest)) : W p l e R s m args below meth c H locs cells slots Q (F0 m pc ls (v :: .ref a :: rest)) := by
  obtain ⟨L, f, ⟨rfl, rfl⟩, hP, hD, hS⟩ := hH
  exact pw_put hC.1 hC.2.1 hC.2.2.1 hin ty0 hty hnm hC.2.2.2.1 hC.2.2.2.2.1 hP hD hS ha hf hc k hk (hC.2.2.1 _ hlink) hfin hn hfit hl hdg (fun H1 locs1 h1 h2 h3 => kk H1 locs1 ⟨_, _, ⟨rfl, rfl⟩, h1, h2, h3⟩)
theorem rp_putF (hC : gX own tys D p s m args c cc nL) (hH : gH D (rI LL) g A H0 H locs) {C : String} {T : u_T} {N ci index : Nat} (hin : ∀ w ∈ u_ws C T N, w ∈ wA) (ty0 : Nat → FieldType) (hty : ∀ k, k < N → parseFieldDescriptor (T k).2.2.1 = some (ty0 k)) (hnm : ∀ a, a < N → ∀ b, b < N → a ≠ b → (T a).2.1 ≠ (T b).2.1) {fs : List Value} (ha : a ∈ LL) (hf : g a = .inr (ci, fs)) (hc : vwCl[ci]? = some (C, T, N)) (k : Nat) (hk : k < N) (hlink : Cond.fieldLink own index (T k).1 (T k).2.1 (T k).2.2.1 ∈ wA) (hfin : (T k).2.2.2 = true) (hin2 : meth.name = "<init>") (hdecl : (T k).1 = own) {v : Value} (hn : narrow (ty0 k) v = v) (hfit : fits (ty0 k) v = true) (hl : k < fs.length) (hdg : decode cc pc = .ok (.putfield index, 3))
    (kk : ∀ (H1 : Heap) (locs1 : List Loc), gH D (rI LL) (va_up g a (.inr (ci, fs.set k v))) A H0 H1 locs1 → W p l e R s m args below meth c H1 locs1 cells slots Q (F0 m (pc + 3) ls rest)) : W p l e R s m args below meth c H locs cells slots Q (F0 m pc ls (v :: .ref a :: rest)) := by
  obtain ⟨L, f, ⟨rfl, rfl⟩, hP, hD, hS⟩ := hH
  exact pw_putF hC.1 hC.2.1 hC.2.2.1 hin ty0 hty hnm hC.2.2.2.1 hC.2.2.2.2.1 hP hD hS ha hf hc k hk (hC.2.2.1 _ hlink) hfin hin2 hdecl hn hfit hl hdg (fun H1 locs1 h1 h2 h3 => kk H1 locs1 ⟨_, _, ⟨rfl, rfl⟩, h1, h2, h3⟩)
theorem rp_astq (hC : gX own tys D p s m args c cc nL) (hH : gH D (rI LL) g A H0 H locs) (t0 ci : Nat) {cA : ClassId} {r : vw_C} {n v i : Nat} {vs : List Value} {h : Nat → Option Nat} (ha : a ∈ LL) (hf : g a = rowE cA n h) (ht : tys[t0]? = some (cA, .object r.1)) (hva : v ∈ LL) (hv : g v = .inr (ci, vs)) (hc : vwCl[ci]? = some r) (hi : i < n) (hn : n ≤ 100) (hdg : decode cc pc = .ok (.aastore, 1))
    (kk : ∀ (H1 : Heap) (locs1 : List Loc), gH D (rI LL) (va_up g a (rowE cA n (va_up h i (some v)))) A H0 H1 locs1 → W p l e R s m args below meth c H1 locs1 cells slots Q (F0 m (pc + 1) ls rest)) : W p l e R s m args below meth c H locs cells slots Q (F0 m pc ls (.ref v :: .int (nI i) :: .ref a :: rest)) := by
  obtain ⟨L, f, ⟨rfl, rfl⟩, hP, hD, hS⟩ := hH
  refine pw_astq hC.1 hC.2.1 hC.2.2.2.2.1 hP hD hS t0 ci ha hf ht hva hv hc (vp_in_nI hi (by omega)) hdg (fun H1 locs1 h1 h2 h3 => ?_)
  rw [nI_clamp (by omega)] at h1 h2
  exact kk H1 locs1 ⟨_, _, ⟨rfl, rfl⟩, h1, h2, h3⟩
theorem rp_new (hC : gX own tys D p s m args c cc nL) (hA : ∀ q, H0.size ≤ q → A q) (hH : gH D I u A H0 H locs) {C : String} {T : u_T} {N ci index : Nat} (hin : ∀ w ∈ u_ws C T N, w ∈ wA) (ty : Nat → FieldType) (hty : ∀ k, k < N → parseFieldDescriptor (T k).2.2.1 = some (ty k)) (hcl : Cond.classLink own index C ∈ wA) (hinst : Cond.instantiable C N ∈ wA) (hini : Cond.initialized C ∈ wA) (hc : vwCl[ci]? = some (C, T, N)) {fs : List Value} (hfs : ∀ j, j < N → defaultValue (ty j) = vp_V fs j) (hcells : cells + 1 ≤ R.cells) (hslots : slots + N ≤ R.slots) (hdg : decode cc pc = .ok (.new index, 3))
    (kk : ∀ (q : Nat) (H1 : Heap) (LL : List Nat) (f : Nat → va_E), I u LL f → q ∉ LL → gH D (rI (LL ++ [q])) (va_up f q (.inr (ci, fs))) A H0 H1 locs → W p l e R s m args below meth c H1 locs (cells + 1) (slots + N) Q (F0 m (pc + 3) ls (.ref q :: rest))) : W p l e R s m args below meth c H locs cells slots Q (F0 m pc ls rest) := by
  obtain ⟨L, f, hI, hP, hD, hS⟩ := hH
  exact pw_new hC.1 hC.2.1 hC.2.2.1 hin ty hty hC.2.2.2.1 (hC.2.2.1 _ hcl) (hC.2.2.1 _ hinst) (hC.2.2.1 _ hini) hC.2.2.2.2.1 hP hD hS hA hc hfs hcells hslots hdg (fun q H1 hq h1 h2 h3 => kk q H1 L f hI hq ⟨_, _, ⟨rfl, rfl⟩, h1, h2, h3⟩)
theorem gcWI {y : MethodName} {b : ByteArray} {n dp idx mc ms : Nat} {av : List Value} {post : σ → Prop} (hC : gX own tys D p s m args c cc nL) (hls : ls.size = nL) (hA : ∀ q, H0.size ≤ q → A q) (hH : gH D I u A H0 H locs) (M : ∀ LL f sz, I u LL f → Met l y (wz y b n none) (rmL dp mc ms) (gP D tys LL f sz (.ref a :: av)) (va_Qv post (gB D tys I (va_A (va_pl LL f) sz)) (va_A (va_pl LL f) sz)) mc ms (va_A (va_pl LL f) sz)) (hk : gKI own idx y b n av.length) (hR : dp + 1 ≤ R.frames ∧ 8 + (n + 11) + 34 * dp ≤ R.locals) (hdg : decode cc pc = .ok (.invokespecial idx, 3)) (hcs : cells + mc ≤ R.cells ∧ slots + ms ≤ R.slots) (hst : st = av.reverse ++ .ref a :: rest) (hcat : (rest.map fun v => v.category).sum ≤ 8) (kk : ∀ (u' : σ) (H1 : Heap) (locs1 : List Loc), post u' → gH D I u' A H0 H1 locs1 → W p l e R s m args below meth c H1 locs1 (cells + mc) (slots + ms) Q (F0 m (pc + 3) ls rest)) : W p l e R s m args below meth c H locs cells slots Q (F0 m pc ls st) := by
  obtain ⟨LL, f, hI, hP, hD, hS⟩ := hH
  have hF := gH.free hD hS hA
  exact va_callv (va_runI (As := av) hC.fix (M LL f H.size hI) ⟨hk.1.B hC.2.2.1 hR, hk.2.1, hC.2.2.1 _ hk.2.2⟩ ⟨gP_blind, fun U hU hW => gP_pre hC.2.2.2.2.1 hP hD hU hW⟩ rfl rfl hls hst (lv_room hcat) hdg hcs) hS (fun q _ h => hF q h) hF (fun u' t H1 locs1 ht hvm hp hB hz hk1 hS1 => kk u' H1 locs1 hp (gH.back hB ht hF hS1))
end RP
section CN
variable {l : Launch} {D : va_G} {tys : List (ClassId × FieldType)} {LL : List Nat} {g : Nat → va_E} {sz : Nat} {a : Nat}
set_option maxHeartbeats 4000000 in
set_option maxRecDepth 100000 in
theorem c_Tinit0 (hI : rI LL g LL g) (ha : a ∈ LL) (hf : g a = .inr (1, [.int 0, .long 0, .int 0, .int 0])) (v : Int32) (ed : Int64) (qu : Int32) : Met l yT_init (wz yT_init bT_init 5 none) (rmL 1 0 0) (gP D tys LL g sz [.ref a, .int v, .long ed, .int qu]) (va_Qv (fun u => u = va_up g a (.inr (1, [.int v, .long ed, .int qu, .int 0]))) (gB D tys (rI LL) (va_A (va_pl LL g) sz)) (va_A (va_pl LL g) sz)) 0 0 (va_A (va_pl LL g) sz) := by
  refine gMet (own := RX1) (u := g) (Qc := fun A => va_Qv (fun u => u = va_up g a (.inr (1, [.int v, .long ed, .int qu, .int 0]))) (gB D tys (rI LL) A) A) (by decide) rfl hI (Nat.le_of_ble_eq_true rfl) ?_
  intro p e s m below meth c ls A hC hr hlk hnm hA hH hl
  have hx := hC.1
  have hb := hC.2.1
  have hml := hC.2.2.2.2.2
  have hts := hC.2.2.1
  have hown := hC.2.2.2.1
  have hl : lv_has ls 5 [(0, _), (1, _), (2, _), (4, _)] := hl
  first | refine lv_aload_n hx hb dT_init_0 rfl (lv_at hl 0 rfl) ?_ | refine lv_aload_nN hx hb dT_init_0 rfl (lv_at hl 0 rfl) ?_
  refine W.objInit hx hb hown (hts _ wm_T_1) (hts _ wi_O_init) (hts _ wc_O_init) rfl (by rw [hml]; exact hl.1) rfl dT_init_1 (Nat.le_of_ble_eq_true rfl) (Nat.le_of_ble_eq_true rfl) ?_
  refine W.eq (g2 := F0 m 4 ls []) rfl ?_
  first | refine lv_aload_n hx hb dT_init_4 rfl (lv_at hl 0 rfl) ?_ | refine lv_aload_nN hx hb dT_init_4 rfl (lv_at hl 0 rfl) ?_
  refine lv_iload_n hx hb dT_init_5 rfl (lv_at hl 1 rfl) ?_
  refine rp_putF hC hH inX1 tyX1 tyX1_ok nmX1 ha hf rfl 0 (by decide) wf_T_7 rfl hnm rfl rfl rfl (Nat.le_of_ble_eq_true rfl) dT_init_6 (fun H locs hH => ?_)
  first | refine lv_aload_n hx hb dT_init_9 rfl (lv_at hl 0 rfl) ?_ | refine lv_aload_nN hx hb dT_init_9 rfl (lv_at hl 0 rfl) ?_
  refine lv_lload_n hx hb dT_init_10 rfl (lv_at hl 2 rfl) ?_
  refine rp_put hC hH inX1 tyX1 tyX1_ok nmX1 ha (va_up_self _ _ _) rfl 1 (by decide) wf_T_13 rfl rfl rfl (Nat.le_of_ble_eq_true rfl) dT_init_11 (fun H locs hH => ?_)
  first | refine lv_aload_n hx hb dT_init_14 rfl (lv_at hl 0 rfl) ?_ | refine lv_aload_nN hx hb dT_init_14 rfl (lv_at hl 0 rfl) ?_
  refine lv_iload hx hb dT_init_15 (lv_at hl 3 rfl) ?_
  refine rp_put hC hH inX1 tyX1 tyX1_ok nmX1 ha (va_up_self _ _ _) rfl 2 (by decide) wf_T_17 rfl rfl rfl (Nat.le_of_ble_eq_true rfl) dT_init_17 (fun H locs hH => ?_)
  exact grWv hC hr hlk hH (by simp only [bx_uu]; rfl) dT_init_20
theorem c_Tinit {L2 : List Nat} {f2 : Nat → va_E} (hI : rI LL g L2 f2) (ha : a ∈ LL) (hf : g a = .inr (1, [.int 0, .long 0, .int 0, .int 0])) (v : Int32) (ed : Int64) (qu : Int32) : Met l yT_init (wz yT_init bT_init 5 none) (rmL 1 0 0) (gP D tys L2 f2 sz [.ref a, .int v, .long ed, .int qu]) (va_Qv (fun u => u = va_up g a (.inr (1, [.int v, .long ed, .int qu, .int 0]))) (gB D tys (rI LL) (va_A (va_pl L2 f2) sz)) (va_A (va_pl L2 f2) sz)) 0 0 (va_A (va_pl L2 f2) sz) := by
  obtain ⟨h1, h2⟩ := hI
  rw [h1, h2]
  exact c_Tinit0 ⟨rfl, rfl⟩ ha hf v ed qu
set_option maxHeartbeats 4000000 in
set_option maxRecDepth 100000 in
theorem c_Rinit0 (hI : rI LL g LL g) (ha : a ∈ LL) (hf : g a = .inr (0, [.int 0, .null, .long 0, .int 0, .int 0, .int 0, .int 0, .int 0, .long 0, .null, .int 0])) (v : Int32) (t : Nat) (i : Int64) (z : Int32) : Met l yR_init (wz yR_init bR_init 6 none) (rmL 1 0 0) (gP D tys LL g sz [.ref a, .int v, .ref t, .long i, .int z]) (va_Qv (fun u => u = va_up g a (.inr (0, [.int v, .ref t, .long i, .int z, .int 0, .int 0, .int 0, .int 0, .long 0, .null, .int 0]))) (gB D tys (rI LL) (va_A (va_pl LL g) sz)) (va_A (va_pl LL g) sz)) 0 0 (va_A (va_pl LL g) sz) := by
  refine gMet (own := RX0) (u := g) (Qc := fun A => va_Qv (fun u => u = va_up g a (.inr (0, [.int v, .ref t, .long i, .int z, .int 0, .int 0, .int 0, .int 0, .long 0, .null, .int 0]))) (gB D tys (rI LL) A) A) (by decide) rfl hI (Nat.le_of_ble_eq_true rfl) ?_
  intro p e s m below meth c ls A hC hr hlk hnm hA hH hl
  have hx := hC.1
  have hb := hC.2.1
  have hml := hC.2.2.2.2.2
  have hts := hC.2.2.1
  have hown := hC.2.2.2.1
  have hl : lv_has ls 6 [(0, _), (1, _), (2, _), (3, _), (5, _)] := hl
  first | refine lv_aload_n hx hb dR_init_0 rfl (lv_at hl 0 rfl) ?_ | refine lv_aload_nN hx hb dR_init_0 rfl (lv_at hl 0 rfl) ?_
  refine W.objInit hx hb hown (hts _ wm_R_1) (hts _ wi_O_init) (hts _ wc_O_init) rfl (by rw [hml]; exact hl.1) rfl dR_init_1 (Nat.le_of_ble_eq_true rfl) (Nat.le_of_ble_eq_true rfl) ?_
  refine W.eq (g2 := F0 m 4 ls []) rfl ?_
  first | refine lv_aload_n hx hb dR_init_4 rfl (lv_at hl 0 rfl) ?_ | refine lv_aload_nN hx hb dR_init_4 rfl (lv_at hl 0 rfl) ?_
  refine lv_iload_n hx hb dR_init_5 rfl (lv_at hl 1 rfl) ?_
  refine rp_putF hC hH inX0 tyX0 tyX0_ok nmX0 ha hf rfl 0 (by decide) wf_R_7 rfl hnm rfl rfl rfl (Nat.le_of_ble_eq_true rfl) dR_init_6 (fun H locs hH => ?_)
  first | refine lv_aload_n hx hb dR_init_9 rfl (lv_at hl 0 rfl) ?_ | refine lv_aload_nN hx hb dR_init_9 rfl (lv_at hl 0 rfl) ?_
  first | refine lv_aload_n hx hb dR_init_10 rfl (lv_at hl 2 rfl) ?_ | refine lv_aload_nN hx hb dR_init_10 rfl (lv_at hl 2 rfl) ?_
  refine rp_putF hC hH inX0 tyX0 tyX0_ok nmX0 ha (va_up_self _ _ _) rfl 1 (by decide) wf_R_13 rfl hnm rfl rfl rfl (Nat.le_of_ble_eq_true rfl) dR_init_11 (fun H locs hH => ?_)
  first | refine lv_aload_n hx hb dR_init_14 rfl (lv_at hl 0 rfl) ?_ | refine lv_aload_nN hx hb dR_init_14 rfl (lv_at hl 0 rfl) ?_
  refine lv_lload_n hx hb dR_init_15 rfl (lv_at hl 3 rfl) ?_
  refine rp_putF hC hH inX0 tyX0 tyX0_ok nmX0 ha (va_up_self _ _ _) rfl 2 (by decide) wf_R_17 rfl hnm rfl rfl rfl (Nat.le_of_ble_eq_true rfl) dR_init_16 (fun H locs hH => ?_)
  first | refine lv_aload_n hx hb dR_init_19 rfl (lv_at hl 0 rfl) ?_ | refine lv_aload_nN hx hb dR_init_19 rfl (lv_at hl 0 rfl) ?_
  refine lv_iload hx hb dR_init_20 (lv_at hl 4 rfl) ?_
  refine rp_putF hC hH inX0 tyX0 tyX0_ok nmX0 ha (va_up_self _ _ _) rfl 3 (by decide) wf_R_21 rfl hnm rfl rfl rfl (Nat.le_of_ble_eq_true rfl) dR_init_22 (fun H locs hH => ?_)
  exact grWv hC hr hlk hH (by simp only [bx_uu]; rfl) dR_init_25
theorem c_Rinit {L2 : List Nat} {f2 : Nat → va_E} (hI : rI LL g L2 f2) (ha : a ∈ LL) (hf : g a = .inr (0, [.int 0, .null, .long 0, .int 0, .int 0, .int 0, .int 0, .int 0, .long 0, .null, .int 0])) (v : Int32) (t : Nat) (i : Int64) (z : Int32) : Met l yR_init (wz yR_init bR_init 6 none) (rmL 1 0 0) (gP D tys L2 f2 sz [.ref a, .int v, .ref t, .long i, .int z]) (va_Qv (fun u => u = va_up g a (.inr (0, [.int v, .ref t, .long i, .int z, .int 0, .int 0, .int 0, .int 0, .long 0, .null, .int 0]))) (gB D tys (rI LL) (va_A (va_pl L2 f2) sz)) (va_A (va_pl L2 f2) sz)) 0 0 (va_A (va_pl L2 f2) sz) := by
  obtain ⟨h1, h2⟩ := hI
  rw [h1, h2]
  exact c_Rinit0 ⟨rfl, rfl⟩ ha hf v t i z
set_option maxHeartbeats 4000000 in
set_option maxRecDepth 100000 in
theorem c_Winit0 (hI : rI LL g LL g) (ha : a ∈ LL) (hf : g a = .inr (2, [.int 0, .null, .long 0, .int 0, .int 0, .int 0, .int 0, .int 0, .null])) (v : Int32) {t n : Nat} {ed : Int64} {x1 x2 : Int32} (ht : t ∈ LL) (hte : g t = .inr (1, [.int (nI n), .long ed, .int x1, .int x2])) : Met l yW_init (wz yW_init bW_init 3 none) (rmL 1 0 0) (gP D tys LL g sz [.ref a, .int v, .ref t]) (va_Qv (fun u => u = va_up g a (.inr (2, [.int v, .ref t, .long ed, .int 0, .int 0, .int 0, .int 0, .int 0, .null]))) (gB D tys (rI LL) (va_A (va_pl LL g) sz)) (va_A (va_pl LL g) sz)) 0 0 (va_A (va_pl LL g) sz) := by
  refine gMet (own := RX2) (u := g) (Qc := fun A => va_Qv (fun u => u = va_up g a (.inr (2, [.int v, .ref t, .long ed, .int 0, .int 0, .int 0, .int 0, .int 0, .null]))) (gB D tys (rI LL) A) A) (by decide) rfl hI (Nat.le_of_ble_eq_true rfl) ?_
  intro p e s m below meth c ls A hC hr hlk hnm hA hH hl
  have hx := hC.1
  have hb := hC.2.1
  have hml := hC.2.2.2.2.2
  have hts := hC.2.2.1
  have hown := hC.2.2.2.1
  have hl : lv_has ls 3 [(0, _), (1, _), (2, _)] := hl
  have hat : t ≠ a := fun q => by rw [q, hf] at hte; cases hte
  first | refine lv_aload_n hx hb dW_init_0 rfl (lv_at hl 0 rfl) ?_ | refine lv_aload_nN hx hb dW_init_0 rfl (lv_at hl 0 rfl) ?_
  refine W.objInit hx hb hown (hts _ wm_W_1) (hts _ wi_O_init) (hts _ wc_O_init) rfl (by rw [hml]; exact hl.1) rfl dW_init_1 (Nat.le_of_ble_eq_true rfl) (Nat.le_of_ble_eq_true rfl) ?_
  refine W.eq (g2 := F0 m 4 ls []) rfl ?_
  first | refine lv_aload_n hx hb dW_init_4 rfl (lv_at hl 0 rfl) ?_ | refine lv_aload_nN hx hb dW_init_4 rfl (lv_at hl 0 rfl) ?_
  refine lv_iload_n hx hb dW_init_5 rfl (lv_at hl 1 rfl) ?_
  refine rp_putF hC hH inX2 tyX2 tyX2_ok nmX2 ha hf rfl 0 (by decide) wf_W_7 rfl hnm rfl rfl rfl (Nat.le_of_ble_eq_true rfl) dW_init_6 (fun H locs hH => ?_)
  first | refine lv_aload_n hx hb dW_init_9 rfl (lv_at hl 0 rfl) ?_ | refine lv_aload_nN hx hb dW_init_9 rfl (lv_at hl 0 rfl) ?_
  first | refine lv_aload_n hx hb dW_init_10 rfl (lv_at hl 2 rfl) ?_ | refine lv_aload_nN hx hb dW_init_10 rfl (lv_at hl 2 rfl) ?_
  refine rp_putF hC hH inX2 tyX2 tyX2_ok nmX2 ha (va_up_self _ _ _) rfl 1 (by decide) wf_W_13 rfl hnm rfl rfl rfl (Nat.le_of_ble_eq_true rfl) dW_init_11 (fun H locs hH => ?_)
  first | refine lv_aload_n hx hb dW_init_14 rfl (lv_at hl 0 rfl) ?_ | refine lv_aload_nN hx hb dW_init_14 rfl (lv_at hl 0 rfl) ?_
  first | refine lv_aload_n hx hb dW_init_15 rfl (lv_at hl 2 rfl) ?_ | refine lv_aload_nN hx hb dW_init_15 rfl (lv_at hl 2 rfl) ?_
  refine rp_get hC hH inX1 ht (by rw [va_up_ne _ _ hat, va_up_ne _ _ hat]; exact hte) rfl 1 (by decide) wf_W_17 rfl dW_init_16 ?_
  refine rp_putF hC hH inX2 tyX2 tyX2_ok nmX2 ha (va_up_self _ _ _) rfl 2 (by decide) wf_W_23 rfl hnm rfl rfl rfl (Nat.le_of_ble_eq_true rfl) dW_init_19 (fun H locs hH => ?_)
  exact grWv hC hr hlk hH (by simp only [bx_uu]; rfl) dW_init_22
theorem c_Winit {L2 : List Nat} {f2 : Nat → va_E} (hI : rI LL g L2 f2) (ha : a ∈ LL) (hf : g a = .inr (2, [.int 0, .null, .long 0, .int 0, .int 0, .int 0, .int 0, .int 0, .null])) (v : Int32) {t n : Nat} {ed : Int64} {x1 x2 : Int32} (ht : t ∈ LL) (hte : g t = .inr (1, [.int (nI n), .long ed, .int x1, .int x2])) : Met l yW_init (wz yW_init bW_init 3 none) (rmL 1 0 0) (gP D tys L2 f2 sz [.ref a, .int v, .ref t]) (va_Qv (fun u => u = va_up g a (.inr (2, [.int v, .ref t, .long ed, .int 0, .int 0, .int 0, .int 0, .int 0, .null]))) (gB D tys (rI LL) (va_A (va_pl L2 f2) sz)) (va_A (va_pl L2 f2) sz)) 0 0 (va_A (va_pl L2 f2) sz) := by
  obtain ⟨h1, h2⟩ := hI
  rw [h1, h2]
  exact c_Winit0 ⟨rfl, rfl⟩ ha hf v ht hte
end CN
end
section
/-! ONE MORE tool, worker, request -/
theorem up3 {f : Nat → va_E} {q a o b : Nat} {e1 e2 e3 v : va_E} (hq : b ≠ q) (ha : f a ≠ v) (ho : f o ≠ v) (hb : f b = v) : va_up (va_up (va_up f q e1) a e2) o e3 b = v := by
  rw [va_up_ne _ _ (fun h => ho (by rw [← h]; exact hb)), va_up_ne _ _ (fun h => ha (by rw [← h]; exact hb)), va_up_ne _ _ hq]
  exact hb
theorem up3q {f : Nat → va_E} {q a o : Nat} {e1 e2 e3 : va_E} (ha : q ≠ a) (ho : q ≠ o) : va_up (va_up (va_up f q e1) a e2) o e3 q = e1 := by
  rw [va_up_ne _ _ ho, va_up_ne _ _ ha, va_up_self]
theorem up3a {f : Nat → va_E} {q a o : Nat} {e1 e2 e3 : va_E} (ho : a ≠ o) : va_up (va_up (va_up f q e1) a e2) o e3 a = e2 := by
  rw [va_up_ne _ _ ho, va_up_self]
theorem eA_push (n : Nat) (ad : Nat → Nat) (q : Nat) : va_up (eA n ad) n (some q) = eA (n + 1) (va_up ad n q) := by
  funext i
  by_cases h : i = n
  · subst h
    rw [va_up_self, eA_in (Nat.lt_succ_self _), va_up_self]
  · rw [va_up_ne _ _ h]
    by_cases h2 : i < n
    · rw [eA_in h2, eA_in (by omega), va_up_ne _ _ h]
    · rw [eA_out h2, eA_out (by omega)]
theorem eW_congr {ta ta' ra ra' : Nat → Nat} {i : Nat} {w : cs_W} (h1 : ta' (wTo w) = ta (wTo w)) (h2 : ∀ j, wRq w = some j → ra' j = ra j) : eW ta' ra' i w = eW ta ra i w := by
  unfold eW
  rw [h1]
  cases hq : wRq w with
  | none => rfl
  | some j => simp only [Option.map, h2 j hq]
theorem eR_congr {ta ta' wa wa' : Nat → Nat} {i : Nat} {r : cs_R} (h1 : ta' (rTo r) = ta (rTo r)) (h2 : ∀ j, rWk r = some j → wa' j = wa j) : eR ta' wa' i r = eR ta wa i r := by
  unfold eR
  rw [h1]
  cases hq : rWk r with
  | none => rfl
  | some j => simp only [Option.map, h2 j hq]
theorem gT_new (x : cs_S) (t : cs_T) : gT (aT x t) (nT x) = t := va_up_self _ _ _
theorem gW_new (x : cs_S) (w : cs_W) : gW (aW x w) (nW x) = w := va_up_self _ _ _
theorem gR_new (x : cs_S) (r : cs_R) : gR (aR x r) (nR x) = r := va_up_self _ _ _
theorem gT_old (x : cs_S) (t : cs_T) {i : Nat} (h : i ≠ nT x) : gT (aT x t) i = gT x i := va_up_ne _ _ h
theorem gW_old (x : cs_S) (w : cs_W) {i : Nat} (h : i ≠ nW x) : gW (aW x w) i = gW x i := va_up_ne _ _ h
theorem gR_old (x : cs_S) (r : cs_R) {i : Nat} (h : i ≠ nR x) : gR (aR x r) i = gR x i := va_up_ne _ _ h
section PU
variable {k : ck_F} {d : ck_A} {x : cs_S} {LL : List Nat} {f : Nat → va_E} {q : Nat}
theorem cI.ext (h : cI k d x LL f) (hq : q ∉ LL) (e : va_E) : cI k d x (LL ++ [q]) (va_up f q e) := by
  obtain ⟨h0, h1, h2, h3, h4, h5, h6, h7⟩ := h
  have up : ∀ {b : Nat} {v : va_E}, (b ∈ LL ∧ f b = v) → (b ∈ LL ++ [q] ∧ va_up f q e b = v) := fun {b v} hb => ⟨List.mem_append_left _ hb.1, by
    have z : b ≠ q := fun z => hq (z ▸ hb.1)
    rw [va_up_ne _ _ z]
    exact hb.2⟩
  exact ⟨h0, up h1, up h2, up h3, up h4, fun i hi => up (h5 i hi), fun i hi => up (h6 i hi), fun i hi => up (h7 i hi)⟩
theorem cI.pushT (h : cI k d x LL f) (hq : q ∉ LL) (hn : nT x < 6) (t : cs_T) : cI k (va_up (aTo d) (nT x) q, aWo d, aRq d) (aT x t) (LL ++ [q]) (va_up (va_up (va_up f q (.inr (1, eT (nT x) t))) (kTs k) (rowE k.2.1 6 (va_up (eA (nT x) (aTo d)) (nT x) (some q)))) (kO k) (.inr (3, eO k (aT x t)))) := by
  obtain ⟨h0, h1, h2, h3, h4, h5, h6, h7⟩ := h
  have ne : ∀ {b : Nat}, b ∈ LL → b ≠ q := fun hb z => hq (z ▸ hb)
  have hTO : kTs k ≠ kO k := fun z => by rw [z, h1.2] at h2; cases h2.2
  have in1 : ∀ {b : Nat}, b ∈ LL → b ∈ LL ++ [q] := fun hb => List.mem_append_left _ hb
  refine ⟨⟨⟨hn, h0.1.2⟩, fun i hi => ⟨Nat.lt_succ_of_lt (h0.2.1 i hi).1, (h0.2.1 i hi).2⟩, fun i hi => ⟨Nat.lt_succ_of_lt (h0.2.2 i hi).1, (h0.2.2 i hi).2⟩⟩, ⟨in1 h1.1, va_up_self _ _ _⟩, ⟨in1 h2.1, ?_⟩, ⟨in1 h3.1, up3 (ne h3.1) (by rw [h2.2]; simp) (by rw [h1.2]; simp) h3.2⟩, ⟨in1 h4.1, up3 (ne h4.1) (by rw [h2.2]; simp) (by rw [h1.2]; simp) h4.2⟩, fun i hi => ?_, fun i hi => ⟨in1 (h6 i hi).1, ?_⟩, fun i hi => ⟨in1 (h7 i hi).1, ?_⟩⟩
  · rw [up3a hTO, eA_push]
  · by_cases e : i = nT x
    · subst e
      have ha : aTo (va_up (aTo d) (nT x) q, aWo d, aRq d) (nT x) = q := va_up_self _ _ _
      rw [ha, gT_new]
      exact ⟨List.mem_append_right _ (List.mem_singleton.mpr rfl), up3q (fun z => hq (z ▸ h2.1)) (fun z => hq (z ▸ h1.1))⟩
    · have hi2 : i < nT x := by have : i < nT x + 1 := hi; omega
      have ha : aTo (va_up (aTo d) (nT x) q, aWo d, aRq d) i = aTo d i := va_up_ne _ _ e
      rw [ha, gT_old _ _ e]
      exact ⟨in1 (h5 i hi2).1, up3 (ne (h5 i hi2).1) (by rw [h2.2]; simp) (by rw [h1.2]; simp) (h5 i hi2).2⟩
  · refine up3 (ne (h6 i hi).1) (by rw [h2.2]; simp) (by rw [h1.2]; simp) ((h6 i hi).2.trans ?_)
    exact congrArg (fun z => Sum.inr (2, z)) (eW_congr (va_up_ne _ _ (Nat.ne_of_lt (h0.2.1 i hi).1)) (fun _ _ => rfl)).symm
  · refine up3 (ne (h7 i hi).1) (by rw [h2.2]; simp) (by rw [h1.2]; simp) ((h7 i hi).2.trans ?_)
    exact congrArg (fun z => Sum.inr (0, z)) (eR_congr (va_up_ne _ _ (Nat.ne_of_lt (h0.2.2 i hi).1)) (fun _ _ => rfl)).symm
theorem cI.pushW (h : cI k d x LL f) (hq : q ∉ LL) (hn : nW x < 60) (w : cs_W) (hw : wTo w < nT x) (hw2 : wRq w = none) : cI k (aTo d, va_up (aWo d) (nW x) q, aRq d) (aW x w) (LL ++ [q]) (va_up (va_up (va_up f q (.inr (2, eW (aTo d) (aRq d) (nW x) w))) (kWs k) (rowE k.2.2.1 60 (va_up (eA (nW x) (aWo d)) (nW x) (some q)))) (kO k) (.inr (3, eO k (aW x w)))) := by
  obtain ⟨h0, h1, h2, h3, h4, h5, h6, h7⟩ := h
  have ne : ∀ {b : Nat}, b ∈ LL → b ≠ q := fun hb z => hq (z ▸ hb)
  have hTO : kWs k ≠ kO k := fun z => by rw [z, h1.2] at h3; cases h3.2
  have in1 : ∀ {b : Nat}, b ∈ LL → b ∈ LL ++ [q] := fun hb => List.mem_append_left _ hb
  refine ⟨⟨⟨h0.1.1, hn, h0.1.2.2⟩, fun i hi => ?_, fun i hi => ⟨(h0.2.2 i hi).1, fun j hj => Nat.lt_succ_of_lt ((h0.2.2 i hi).2 j hj)⟩⟩, ⟨in1 h1.1, va_up_self _ _ _⟩, ⟨in1 h2.1, up3 (ne h2.1) (by rw [h3.2]; simp) (by rw [h1.2]; simp) h2.2⟩, ⟨in1 h3.1, ?_⟩, ⟨in1 h4.1, up3 (ne h4.1) (by rw [h3.2]; simp) (by rw [h1.2]; simp) h4.2⟩, fun i hi => ⟨in1 (h5 i hi).1, up3 (ne (h5 i hi).1) (by rw [h3.2]; simp) (by rw [h1.2]; simp) (h5 i hi).2⟩, fun i hi => ?_, fun i hi => ⟨in1 (h7 i hi).1, ?_⟩⟩
  · by_cases e : i = nW x
    · subst e
      rw [gW_new]
      exact ⟨hw, fun j hj => by rw [hw2] at hj; cases hj⟩
    · rw [gW_old _ _ e]
      exact h0.2.1 i (by have : i < nW x + 1 := hi; omega)
  · rw [up3a hTO, eA_push]
  · by_cases e : i = nW x
    · subst e
      have ha : aWo (aTo d, va_up (aWo d) (nW x) q, aRq d) (nW x) = q := va_up_self _ _ _
      rw [ha, gW_new]
      exact ⟨List.mem_append_right _ (List.mem_singleton.mpr rfl), up3q (fun z => hq (z ▸ h3.1)) (fun z => hq (z ▸ h1.1))⟩
    · have hi2 : i < nW x := by have : i < nW x + 1 := hi; omega
      have ha : aWo (aTo d, va_up (aWo d) (nW x) q, aRq d) i = aWo d i := va_up_ne _ _ e
      rw [ha, gW_old _ _ e]
      exact ⟨in1 (h6 i hi2).1, up3 (ne (h6 i hi2).1) (by rw [h3.2]; simp) (by rw [h1.2]; simp) (h6 i hi2).2⟩
  · refine up3 (ne (h7 i hi).1) (by rw [h3.2]; simp) (by rw [h1.2]; simp) ((h7 i hi).2.trans ?_)
    exact congrArg (fun z => Sum.inr (0, z)) (eR_congr rfl (fun j hj => va_up_ne _ _ (Nat.ne_of_lt ((h0.2.2 i hi).2 j hj)))).symm
theorem cI.pushR (h : cI k d x LL f) (hq : q ∉ LL) (hn : nR x < 100) (r : cs_R) (hr : rTo r < nT x) (hr2 : rWk r = none) : cI k (aTo d, aWo d, va_up (aRq d) (nR x) q) (aR x r) (LL ++ [q]) (va_up (va_up (va_up f q (.inr (0, eR (aTo d) (aWo d) (nR x) r))) (kRs k) (rowE k.2.2.2 100 (va_up (eA (nR x) (aRq d)) (nR x) (some q)))) (kO k) (.inr (3, eO k (aR x r)))) := by
  obtain ⟨h0, h1, h2, h3, h4, h5, h6, h7⟩ := h
  have ne : ∀ {b : Nat}, b ∈ LL → b ≠ q := fun hb z => hq (z ▸ hb)
  have hTO : kRs k ≠ kO k := fun z => by rw [z, h1.2] at h4; cases h4.2
  have in1 : ∀ {b : Nat}, b ∈ LL → b ∈ LL ++ [q] := fun hb => List.mem_append_left _ hb
  refine ⟨⟨⟨h0.1.1, h0.1.2.1, hn⟩, fun i hi => ⟨(h0.2.1 i hi).1, fun j hj => Nat.lt_succ_of_lt ((h0.2.1 i hi).2 j hj)⟩, fun i hi => ?_⟩, ⟨in1 h1.1, va_up_self _ _ _⟩, ⟨in1 h2.1, up3 (ne h2.1) (by rw [h4.2]; simp) (by rw [h1.2]; simp) h2.2⟩, ⟨in1 h3.1, up3 (ne h3.1) (by rw [h4.2]; simp) (by rw [h1.2]; simp) h3.2⟩, ⟨in1 h4.1, ?_⟩, fun i hi => ⟨in1 (h5 i hi).1, up3 (ne (h5 i hi).1) (by rw [h4.2]; simp) (by rw [h1.2]; simp) (h5 i hi).2⟩, fun i hi => ⟨in1 (h6 i hi).1, ?_⟩, fun i hi => ?_⟩
  · by_cases e : i = nR x
    · subst e
      rw [gR_new]
      exact ⟨hr, fun j hj => by rw [hr2] at hj; cases hj⟩
    · rw [gR_old _ _ e]
      exact h0.2.2 i (by have : i < nR x + 1 := hi; omega)
  · rw [up3a hTO, eA_push]
  · refine up3 (ne (h6 i hi).1) (by rw [h4.2]; simp) (by rw [h1.2]; simp) ((h6 i hi).2.trans ?_)
    exact congrArg (fun z => Sum.inr (2, z)) (eW_congr rfl (fun j hj => va_up_ne _ _ (Nat.ne_of_lt ((h0.2.1 i hi).2 j hj)))).symm
  · by_cases e : i = nR x
    · subst e
      have ha : aRq (aTo d, aWo d, va_up (aRq d) (nR x) q) (nR x) = q := va_up_self _ _ _
      rw [ha, gR_new]
      exact ⟨List.mem_append_right _ (List.mem_singleton.mpr rfl), up3q (fun z => hq (z ▸ h4.1)) (fun z => hq (z ▸ h1.1))⟩
    · have hi2 : i < nR x := by have : i < nR x + 1 := hi; omega
      have ha : aRq (aTo d, aWo d, va_up (aRq d) (nR x) q) i = aRq d i := va_up_ne _ _ e
      rw [ha, gR_old _ _ e]
      exact ⟨in1 (h7 i hi2).1, up3 (ne (h7 i hi2).1) (by rw [h4.2]; simp) (by rw [h1.2]; simp) (h7 i hi2).2⟩
end PU
/-- the place that a number names -/
def lk (n : Nat) (v : Int32) : Option Nat := if 0 ≤ v.toInt ∧ v.toInt < n then some v.toInt.toNat else none
theorem lk_in {n i : Nat} (h : i < n) (hn : n ≤ 100) : lk n (nI i) = some i := by
  have h1 := nI_toInt (n := i) (by omega)
  unfold lk
  rw [h1, if_pos ⟨by omega, by omega⟩]
  rfl
theorem lk_out {n : Nat} {v : Int32} (h : ∀ i : Nat, i < n → v ≠ nI i) : lk n v = none := by
  unfold lk
  refine if_neg (fun q => ?_)
  refine h v.toInt.toNat (by omega) ?_
  apply Int32.toInt_inj.mp
  have h3 : v.toInt < 2 ^ 31 := Int32.toInt_lt v
  rw [nI_toInt (by omega)]
  omega
theorem lk_some {n i : Nat} {v : Int32} (h : lk n v = some i) (hn : n ≤ 100) : i < n ∧ v = nI i := by
  unfold lk at h
  split at h
  · next q =>
    cases h
    refine ⟨by omega, Int32.toInt_inj.mp ?_⟩
    rw [nI_toInt (by omega)]
    omega
  · cases h
end
section
section C4
variable {l : Launch} {D : va_G} {k : ck_F} {d : ck_A} {x : cs_S} {LL : List Nat} {f : Nat → va_E} {sz : Nat}
def zTool (x : cs_S) (ed : Int64) (qu : Int32) : cs_S × Int32 := if nT x < 6 then (aT x (ed, qu, 0), nI (nT x)) else (x, -1)
def zReq (x : cs_S) (v : Int32) (inp : Int64) (z : Int32) : cs_S × Int32 := match lk (nT x) v with
  | none => (x, -1)
  | some t => if nR x < 100 ∧ ¬ z < 0 ∧ z ≤ 1000 then (aR x (t, inp, z, 0, 0, false, false, 0, none, 0), nI (nR x)) else (x, -1)
theorem nI_lt_iff {a b : Nat} (ha : a < 1000) (hb : b < 1000) : nI a < nI b ↔ a < b := nI_ltI (by omega) (by omega)
set_option maxHeartbeats 4000000 in
set_option maxRecDepth 100000 in
theorem c_tool (hI : cJ k (d, x) LL f) (ed : Int64) (qu : Int32) : Met l yC_tool (wz yC_tool bC_tool 5 (some .int)) (rmL 2 1 4) (gP D (ck_tys k) LL f sz [.ref (kO k), .long ed, .int qu]) (va_Qi (fun (r : Int32) (u : ck_A × cs_S) => (u.2, r) = zTool x ed qu) (gB D (ck_tys k) (cJ k) (va_A (va_pl LL f) sz)) (va_A (va_pl LL f) sz)) 1 4 (va_A (va_pl LL f) sz) := by
  refine gMet (own := RX3) (u := (d, x)) (Qc := fun A => va_Qi (fun (r : Int32) (u : ck_A × cs_S) => (u.2, r) = zTool x ed qu) (gB D (ck_tys k) (cJ k) A) A) (by decide) rfl hI (Nat.le_of_ble_eq_true rfl) ?_
  intro p e s m below meth c ls A hC hr hlk hnm hA hH hl
  have hx := hC.1
  have hb := hC.2.1
  have hml := hC.2.2.2.2.2
  have hts := hC.2.2.1
  have hown := hC.2.2.2.1
  have hl : lv_has ls 5 [(0, _), (1, _), (3, _)] := hl
  have hn6 := (cG.ok hH).1.1
  first | refine lv_aload_n hx hb dC_tool_0 rfl (lv_at hl 0 rfl) ?_ | refine lv_aload_nN hx hb dC_tool_0 rfl (lv_at hl 0 rfl) ?_
  refine gC_C_toolCount hC hH dC_tool_1 ?_
  first | refine lv_aload_n hx hb dC_tool_4 rfl (lv_at hl 0 rfl) ?_ | refine lv_aload_nN hx hb dC_tool_4 rfl (lv_at hl 0 rfl) ?_
  refine gC_C_tools hC hH dC_tool_5 ?_
  first | refine lC_T hC hH dC_tool_8 ?_ | refine lC_W hC hH dC_tool_8 ?_ | refine lC_R hC hH dC_tool_8 ?_
  refine lv_icmp_lt  (tgt := 14) hx hb dC_tool_9 (by decide) (fun h => ?_) (fun h => ?_)
  · have hn : nT x < 6 := (nI_lt_iff (b := 6) (by omega) (by omega)).mp h
    refine rp_new (ci := 1) (fs := [.int 0, .long 0, .int 0, .int 0]) hC hA hH inX1 tyX1 tyX1_ok wk_C_9 wb_T wn_T rfl (fun j hj => by rcases (show j = 0 ∨ j = 1 ∨ j = 2 ∨ j = 3 by omega) with rfl | rfl | rfl | rfl <;> rfl) (Nat.le_of_ble_eq_true rfl) (Nat.le_of_ble_eq_true rfl) dC_tool_14 (fun q H LL f hI hq hN => ?_)
    have hI : cI k d x LL f := hI
    have hH : cG D k d x A s.heap H [] := gH.to hN (hI.ext hq _)
    refine lv_dup hx hb dC_tool_17 rfl ?_
    first | refine lv_aload_n hx hb dC_tool_18 rfl (lv_at hl 0 rfl) ?_ | refine lv_aload_nN hx hb dC_tool_18 rfl (lv_at hl 0 rfl) ?_
    refine gC_C_toolCount hC hH dC_tool_19 ?_
    refine lv_lload_n hx hb dC_tool_22 rfl (lv_at hl 1 rfl) ?_
    refine lv_iload_n hx hb dC_tool_23 rfl (lv_at hl 2 rfl) ?_
    refine gcWI hC hl.1 hA hN (fun L2 f2 sz h2 => c_Tinit h2 (List.mem_append_right _ (List.mem_singleton.mpr rfl)) (va_up_self _ _ _) _ _ _) kC_45 ⟨Nat.le_of_ble_eq_true rfl, Nat.le_of_ble_eq_true rfl⟩ dC_tool_24 ⟨Nat.le_of_ble_eq_true rfl, Nat.le_of_ble_eq_true rfl⟩ rfl (Nat.le_of_ble_eq_true rfl) (fun g H locs hg hN => ?_)
    subst hg
    rw [bx_uu] at hN
    have e1 := (hI.ext hq (.inr (1, [.int (nI (nT x)), .long ed, .int qu, .int 0])))
    have hH : cG D k d x A s.heap H locs := gH.to hN e1
    first | refine lv_astore hx hb dC_tool_27 hl (by decide) rfl (fun ls hl => ?_) | refine lv_astoreN hx hb dC_tool_27 hl (by decide) rfl (fun ls hl => ?_)
    have hl : lv_has ls 5 [(4, _), (0, _), (1, _), (3, _)] := hl
    first | refine lv_aload_n hx hb dC_tool_29 rfl (lv_at hl 1 rfl) ?_ | refine lv_aload_nN hx hb dC_tool_29 rfl (lv_at hl 1 rfl) ?_
    refine gC_C_tools hC hH dC_tool_30 ?_
    first | refine lv_aload_n hx hb dC_tool_33 rfl (lv_at hl 1 rfl) ?_ | refine lv_aload_nN hx hb dC_tool_33 rfl (lv_at hl 1 rfl) ?_
    refine gC_C_toolCount hC hH dC_tool_34 ?_
    first | refine lv_aload hx hb dC_tool_37 (lv_at hl 0 rfl) ?_ | refine lv_aloadN hx hb dC_tool_37 (lv_at hl 0 rfl) ?_
    refine rp_astq hC hN 0 1 e1.2.2.1.1 e1.2.2.1.2 rfl (List.mem_append_right _ (List.mem_singleton.mpr rfl)) (va_up_self _ _ _) rfl hn (by decide) dC_tool_39 (fun H locs hN => ?_)
    have hne : kO k ≠ kTs k := fun z => by have h1 := hI.2.1.2; rw [z, hI.2.2.1.2] at h1; cases h1
    have hq2 : kO k ≠ q := fun z => hq (z ▸ hI.2.1.1)
    first | refine lv_aload_n hx hb dC_tool_40 rfl (lv_at hl 1 rfl) ?_ | refine lv_aload_nN hx hb dC_tool_40 rfl (lv_at hl 1 rfl) ?_
    refine lv_dup hx hb dC_tool_41 rfl ?_
    refine rp_get hC hN inX3 e1.2.1.1 (by rw [va_up_ne _ _ hne, va_up_ne _ _ hq2]; exact hI.2.1.2) rfl 7 (by decide) wf_C_42 rfl dC_tool_42 ?_
    refine lv_iconst (v := 1) hx hb dC_tool_45 (by decide) ?_
    refine lv_iadd hx hb dC_tool_46 ?_
    refine rp_put hC hN inX3 tyX3 tyX3_ok nmX3 e1.2.1.1 (by rw [va_up_ne _ _ hne, va_up_ne _ _ hq2]; exact hI.2.1.2) rfl 7 (by decide) wf_C_42 rfl rfl rfl (Nat.le_of_ble_eq_true rfl) dC_tool_47 (fun H locs hN => ?_)
    rw [nI_1] at hN
    have hz := hI.pushT hq hn (ed, qu, 0)
    have hH : cG D k (va_up (aTo d) (nT x) q, aWo d, aRq d) (aT x (ed, qu, 0)) A s.heap H locs := gH.to hN hz
    first | refine lv_aload hx hb dC_tool_50 (lv_at hl 0 rfl) ?_ | refine lv_aloadN hx hb dC_tool_50 (lv_at hl 0 rfl) ?_
    refine rp_get hC hN inX1 (List.mem_append_right _ (List.mem_singleton.mpr rfl)) (up3q (fun z => hq (z ▸ hI.2.2.1.1)) (fun z => hq2 z.symm)) rfl 0 (by decide) wf_C_48 rfl dC_tool_52 ?_
    exact grWi hC hr hlk rfl hH (by rw [zTool, if_pos hn]) dC_tool_55
  · have hn : ¬ nT x < 6 := fun z => h (nI_lt (b := 6) z (by decide))
    refine lv_iconst (v := -1) hx hb dC_tool_12 (by decide) ?_
    refine W.widen (k := 1) (n := 4) (by decide) (by decide) ?_
    exact grWi hC hr hlk rfl hH (by rw [zTool, if_neg hn]) dC_tool_13
set_option maxHeartbeats 4000000 in
set_option maxRecDepth 100000 in
theorem c_startWorker (hI : cJ k (d, x) LL f) {t : Nat} (ht : t < nT x) : Met l yC_startWorker (wz yC_startWorker bC_startWorker 3 (some (.object "WorkerRows$Worker"))) (rmL 2 1 9) (gP D (ck_tys k) LL f sz [.ref (kO k), .ref (aTo d t)]) (va_Qq (fun (r : Option Nat) (u : ck_A × cs_S) => ((nW x < 60 ∧ cst x t 60 < cMo x) ∧ ∃ q : Nat, u = ((aTo d, va_up (aWo d) (nW x) q, aRq d), aW x (t, tEd (gT x t), 0, 0, 0, 0, 0, none)) ∧ r = some q) ∨ (¬ (nW x < 60 ∧ cst x t 60 < cMo x) ∧ u = (d, x) ∧ r = none)) (gB D (ck_tys k) (cJ k) (va_A (va_pl LL f) sz)) (va_A (va_pl LL f) sz)) 1 9 (va_A (va_pl LL f) sz) := by
  refine gMet (own := RX3) (u := (d, x)) (Qc := fun A => va_Qq (fun (r : Option Nat) (u : ck_A × cs_S) => ((nW x < 60 ∧ cst x t 60 < cMo x) ∧ ∃ q : Nat, u = ((aTo d, va_up (aWo d) (nW x) q, aRq d), aW x (t, tEd (gT x t), 0, 0, 0, 0, 0, none)) ∧ r = some q) ∨ (¬ (nW x < 60 ∧ cst x t 60 < cMo x) ∧ u = (d, x) ∧ r = none)) (gB D (ck_tys k) (cJ k) A) A) (by decide) rfl hI (Nat.le_of_ble_eq_true rfl) ?_
  intro p e s m below meth c ls A hC hr hlk hnm hA hH hl
  have hx := hC.1
  have hb := hC.2.1
  have hml := hC.2.2.2.2.2
  have hts := hC.2.2.1
  have hown := hC.2.2.2.1
  have hl : lv_has ls 3 [(0, _), (1, _)] := hl
  have hn60 := (cG.ok hH).1.2.1
  first | refine lv_aload_n hx hb dC_startWorker_0 rfl (lv_at hl 0 rfl) ?_ | refine lv_aload_nN hx hb dC_startWorker_0 rfl (lv_at hl 0 rfl) ?_
  refine gC_C_workerCount hC hH dC_startWorker_1 ?_
  first | refine lv_aload_n hx hb dC_startWorker_4 rfl (lv_at hl 0 rfl) ?_ | refine lv_aload_nN hx hb dC_startWorker_4 rfl (lv_at hl 0 rfl) ?_
  refine gC_C_workers hC hH dC_startWorker_5 ?_
  first | refine lC_T hC hH dC_startWorker_8 ?_ | refine lC_W hC hH dC_startWorker_8 ?_ | refine lC_R hC hH dC_startWorker_8 ?_
  refine lv_icmp_ge  (tgt := 24) hx hb dC_startWorker_9 (by decide) (fun h => ?_) (fun h => ?_)
  · have hn : ¬ nW x < 60 := fun z => nI_ge (b := 60) z (by decide) h
    refine lv_null hx hb dC_startWorker_24 ?_
    refine W.widen (k := 1) (n := 9) (by decide) (by decide) ?_
    exact grWq (v := none) hC hr hlk hH (Or.inr ⟨fun z => hn z.1, rfl, rfl⟩) dC_startWorker_25
  · have hn : nW x < 60 := Nat.lt_of_not_le (fun z => h (nI_le (a := 60) z (by omega)))
    first | refine lv_aload_n hx hb dC_startWorker_12 rfl (lv_at hl 0 rfl) ?_ | refine lv_aload_nN hx hb dC_startWorker_12 rfl (lv_at hl 0 rfl) ?_
    first | refine lv_aload_n hx hb dC_startWorker_13 rfl (lv_at hl 1 rfl) ?_ | refine lv_aload_nN hx hb dC_startWorker_13 rfl (lv_at hl 1 rfl) ?_
    refine gcVi hC hl.1 hH (fun LL f sz hI => c_countStaying hI ht) cJ.o rfl rfl kC_200 ⟨Nat.le_of_ble_eq_true rfl, Nat.le_of_ble_eq_true rfl⟩ dC_startWorker_14 ⟨Nat.le_of_ble_eq_true rfl, Nat.le_of_ble_eq_true rfl⟩ rfl (Nat.le_of_ble_eq_true rfl) (fun r hr1 => ?_)
    subst hr1
    first | refine lv_aload_n hx hb dC_startWorker_17 rfl (lv_at hl 0 rfl) ?_ | refine lv_aload_nN hx hb dC_startWorker_17 rfl (lv_at hl 0 rfl) ?_
    refine gC_C_most hC hH dC_startWorker_18 ?_
    refine lv_icmp_lt  (tgt := 26) hx hb dC_startWorker_21 (by decide) (fun h2 => ?_) (fun h2 => ?_)
    · refine rp_new (ci := 2) (fs := [.int 0, .null, .long 0, .int 0, .int 0, .int 0, .int 0, .int 0, .null]) hC hA hH inX2 tyX2 tyX2_ok wk_C_15 wb_W wn_W rfl (fun j hj => by rcases (show j = 0 ∨ j = 1 ∨ j = 2 ∨ j = 3 ∨ j = 4 ∨ j = 5 ∨ j = 6 ∨ j = 7 ∨ j = 8 by omega) with rfl | rfl | rfl | rfl | rfl | rfl | rfl | rfl | rfl <;> rfl) (Nat.le_of_ble_eq_true rfl) (Nat.le_of_ble_eq_true rfl) dC_startWorker_26 (fun q H LL f hI hq hN => ?_)
      have hI : cI k d x LL f := hI
      have e0 := hI.ext hq (.inr (2, [.int 0, .null, .long 0, .int 0, .int 0, .int 0, .int 0, .int 0, .null]))
      have hH : cG D k d x A s.heap H [] := gH.to hN e0
      refine lv_dup hx hb dC_startWorker_29 rfl ?_
      first | refine lv_aload_n hx hb dC_startWorker_30 rfl (lv_at hl 0 rfl) ?_ | refine lv_aload_nN hx hb dC_startWorker_30 rfl (lv_at hl 0 rfl) ?_
      refine gC_C_workerCount hC hH dC_startWorker_31 ?_
      first | refine lv_aload_n hx hb dC_startWorker_34 rfl (lv_at hl 1 rfl) ?_ | refine lv_aload_nN hx hb dC_startWorker_34 rfl (lv_at hl 1 rfl) ?_
      refine gcWI hC hl.1 hA hN (fun L2 f2 sz h2 => c_Winit h2 (List.mem_append_right _ (List.mem_singleton.mpr rfl)) (va_up_self _ _ _) _ (e0.2.2.2.2.2.1 t ht).1 (e0.2.2.2.2.2.1 t ht).2) kC_204 ⟨Nat.le_of_ble_eq_true rfl, Nat.le_of_ble_eq_true rfl⟩ dC_startWorker_35 ⟨Nat.le_of_ble_eq_true rfl, Nat.le_of_ble_eq_true rfl⟩ rfl (Nat.le_of_ble_eq_true rfl) (fun g H locs hg hN => ?_)
      subst hg
      rw [bx_uu] at hN
      have e1 := hI.ext hq (.inr (2, [.int (nI (nW x)), .ref (aTo d t), .long (tEd (gT x t)), .int 0, .int 0, .int 0, .int 0, .int 0, .null]))
      have hH : cG D k d x A s.heap H locs := gH.to hN e1
      first | refine lv_astore_n hx hb dC_startWorker_38 rfl hl (by decide) rfl (fun ls hl => ?_) | refine lv_astore_nN hx hb dC_startWorker_38 rfl hl (by decide) rfl (fun ls hl => ?_)
      have hl : lv_has ls 3 [(2, _), (0, _), (1, _)] := hl
      first | refine lv_aload_n hx hb dC_startWorker_39 rfl (lv_at hl 1 rfl) ?_ | refine lv_aload_nN hx hb dC_startWorker_39 rfl (lv_at hl 1 rfl) ?_
      refine gC_C_workers hC hH dC_startWorker_40 ?_
      first | refine lv_aload_n hx hb dC_startWorker_43 rfl (lv_at hl 1 rfl) ?_ | refine lv_aload_nN hx hb dC_startWorker_43 rfl (lv_at hl 1 rfl) ?_
      refine gC_C_workerCount hC hH dC_startWorker_44 ?_
      first | refine lv_aload_n hx hb dC_startWorker_47 rfl (lv_at hl 0 rfl) ?_ | refine lv_aload_nN hx hb dC_startWorker_47 rfl (lv_at hl 0 rfl) ?_
      refine rp_astq hC hN 1 2 e1.2.2.2.1.1 e1.2.2.2.1.2 rfl (List.mem_append_right _ (List.mem_singleton.mpr rfl)) (va_up_self _ _ _) rfl hn (by decide) dC_startWorker_48 (fun H locs hN => ?_)
      have hne : kO k ≠ kWs k := fun z => by have h1 := hI.2.1.2; rw [z, hI.2.2.2.1.2] at h1; cases h1
      have hq2 : kO k ≠ q := fun z => hq (z ▸ hI.2.1.1)
      first | refine lv_aload_n hx hb dC_startWorker_49 rfl (lv_at hl 1 rfl) ?_ | refine lv_aload_nN hx hb dC_startWorker_49 rfl (lv_at hl 1 rfl) ?_
      refine lv_dup hx hb dC_startWorker_50 rfl ?_
      refine rp_get hC hN inX3 e1.2.1.1 (by rw [va_up_ne _ _ hne, va_up_ne _ _ hq2]; exact hI.2.1.2) rfl 8 (by decide) wf_C_197 rfl dC_startWorker_51 ?_
      refine lv_iconst (v := 1) hx hb dC_startWorker_54 (by decide) ?_
      refine lv_iadd hx hb dC_startWorker_55 ?_
      refine rp_put hC hN inX3 tyX3 tyX3_ok nmX3 e1.2.1.1 (by rw [va_up_ne _ _ hne, va_up_ne _ _ hq2]; exact hI.2.1.2) rfl 8 (by decide) wf_C_197 rfl rfl rfl (Nat.le_of_ble_eq_true rfl) dC_startWorker_56 (fun H locs hN => ?_)
      rw [nI_1] at hN
      have hz := hI.pushW hq hn (t, tEd (gT x t), 0, 0, 0, 0, 0, none) ht rfl
      have hH : cG D k (aTo d, va_up (aWo d) (nW x) q, aRq d) (aW x (t, tEd (gT x t), 0, 0, 0, 0, 0, none)) A s.heap H locs := gH.to hN hz
      first | refine lv_aload_n hx hb dC_startWorker_59 rfl (lv_at hl 0 rfl) ?_ | refine lv_aload_nN hx hb dC_startWorker_59 rfl (lv_at hl 0 rfl) ?_
      exact grWq (v := some q) hC hr hlk hH (Or.inl ⟨⟨hn, h2⟩, q, rfl, rfl⟩) dC_startWorker_60
    · refine lv_null hx hb dC_startWorker_24 ?_
      refine W.widen (k := 1) (n := 9) (by decide) (by decide) ?_
      exact grWq (v := none) hC hr hlk hH (Or.inr ⟨fun z => h2 z.2, rfl, rfl⟩) dC_startWorker_25
set_option maxHeartbeats 4000000 in
set_option maxRecDepth 100000 in
theorem c_request (hI : cJ k (d, x) LL f) (v : Int32) (inp : Int64) (z : Int32) : Met l yC_request (wz yC_request bC_request 7 (some .int)) (rmL 2 1 11) (gP D (ck_tys k) LL f sz [.ref (kO k), .int v, .long inp, .int z]) (va_Qi (fun (r : Int32) (u : ck_A × cs_S) => (u.2, r) = zReq x v inp z) (gB D (ck_tys k) (cJ k) (va_A (va_pl LL f) sz)) (va_A (va_pl LL f) sz)) 1 11 (va_A (va_pl LL f) sz) := by
  refine gMet (own := RX3) (u := (d, x)) (Qc := fun A => va_Qi (fun (r : Int32) (u : ck_A × cs_S) => (u.2, r) = zReq x v inp z) (gB D (ck_tys k) (cJ k) A) A) (by decide) rfl hI (Nat.le_of_ble_eq_true rfl) ?_
  intro p e s m below meth c ls A hC hr hlk hnm hA hH hl
  have hx := hC.1
  have hb := hC.2.1
  have hml := hC.2.2.2.2.2
  have hts := hC.2.2.1
  have hown := hC.2.2.2.1
  have hl : lv_has ls 7 [(0, _), (1, _), (2, _), (4, _)] := hl
  have hn100 := (cG.ok hH).1.2.2
  have hn6 := (cG.ok hH).1.1
  first | refine lv_aload_n hx hb dC_request_0 rfl (lv_at hl 0 rfl) ?_ | refine lv_aload_nN hx hb dC_request_0 rfl (lv_at hl 0 rfl) ?_
  refine lv_iload_n hx hb dC_request_1 rfl (lv_at hl 1 rfl) ?_
  refine gcVq hC hl.1 hH (fun LL f sz hI => c_toolAt hI v) cJ.o rfl rfl kC_51 ⟨Nat.le_of_ble_eq_true rfl, Nat.le_of_ble_eq_true rfl⟩ dC_request_2 ⟨Nat.le_of_ble_eq_true rfl, Nat.le_of_ble_eq_true rfl⟩ rfl (Nat.le_of_ble_eq_true rfl) (fun o ho => ?_)
  rcases ho with ⟨t, ht, hv, rfl⟩ | ⟨hv, rfl⟩
  · have hlk : lk (nT x) v = some t := by rw [hv]; exact lk_in ht (by omega)
    first | refine lv_astore hx hb dC_request_5 hl (by decide) rfl (fun ls hl => ?_) | refine lv_astoreN hx hb dC_request_5 hl (by decide) rfl (fun ls hl => ?_)
    have hl : lv_has ls 7 [(5, _), (0, _), (1, _), (2, _), (4, _)] := hl
    first | refine lv_aload hx hb dC_request_7 (lv_at hl 0 rfl) ?_ | refine lv_aloadN hx hb dC_request_7 (lv_at hl 0 rfl) ?_
    first | refine lv_ifnull hx hb dC_request_9 ?_ | refine lv_ifnullN (tgt := 37) hx hb dC_request_9 (by decide) ?_
    first | refine lv_aload_n hx hb dC_request_12 rfl (lv_at hl 1 rfl) ?_ | refine lv_aload_nN hx hb dC_request_12 rfl (lv_at hl 1 rfl) ?_
    refine gC_C_requestCount hC hH dC_request_13 ?_
    first | refine lv_aload_n hx hb dC_request_16 rfl (lv_at hl 1 rfl) ?_ | refine lv_aload_nN hx hb dC_request_16 rfl (lv_at hl 1 rfl) ?_
    refine gC_C_requests hC hH dC_request_17 ?_
    first | refine lC_T hC hH dC_request_20 ?_ | refine lC_W hC hH dC_request_20 ?_ | refine lC_R hC hH dC_request_20 ?_
    refine lv_icmp_ge  (tgt := 37) hx hb dC_request_21 (by decide) (fun h => ?_) (fun h => ?_)
    · have hn : ¬ nR x < 100 := fun q => nI_ge (b := 100) q (by decide) h
      refine lv_iconst (v := -1) hx hb dC_request_37 (by decide) ?_
      refine W.widen (k := 1) (n := 11) (by decide) (by decide) ?_
      exact grWi hC hr (by assumption) rfl hH (by simp only [zReq, hlk]; rw [if_neg (fun q => hn q.1)]) dC_request_38
    · have hn : nR x < 100 := Nat.lt_of_not_le (fun q => h (nI_le (a := 100) q (by omega)))
      refine lv_iload hx hb dC_request_24 (lv_at hl 4 rfl) ?_
      refine lv_if_lt  (tgt := 37) hx hb dC_request_26 (by decide) (fun h2 => ?_) (fun h2 => ?_)
      · refine lv_iconst (v := -1) hx hb dC_request_37 (by decide) ?_
        refine W.widen (k := 1) (n := 11) (by decide) (by decide) ?_
        exact grWi hC hr (by assumption) rfl hH (by simp only [zReq, hlk]; rw [if_neg (fun q => q.2.1 h2)]) dC_request_38
      · refine lv_iload hx hb dC_request_29 (lv_at hl 4 rfl) ?_
        refine lv_sipush (v := 1000) hx hb dC_request_31 (by decide) ?_
        refine lv_icmp_le  (tgt := 39) hx hb dC_request_34 (by decide) (fun h3 => ?_) (fun h3 => ?_)
        · refine rp_new (ci := 0) (fs := [.int 0, .null, .long 0, .int 0, .int 0, .int 0, .int 0, .int 0, .long 0, .null, .int 0]) hC hA hH inX0 tyX0 tyX0_ok wk_C_21 wb_R wn_R rfl (fun j hj => by rcases (show j = 0 ∨ j = 1 ∨ j = 2 ∨ j = 3 ∨ j = 4 ∨ j = 5 ∨ j = 6 ∨ j = 7 ∨ j = 8 ∨ j = 9 ∨ j = 10 by omega) with rfl | rfl | rfl | rfl | rfl | rfl | rfl | rfl | rfl | rfl | rfl <;> rfl) (Nat.le_of_ble_eq_true rfl) (Nat.le_of_ble_eq_true rfl) dC_request_39 (fun q H LL f hI hq hN => ?_)
          have hI : cI k d x LL f := hI
          have e0 := hI.ext hq (.inr (0, [.int 0, .null, .long 0, .int 0, .int 0, .int 0, .int 0, .int 0, .long 0, .null, .int 0]))
          have hH : cG D k d x A s.heap H [] := gH.to hN e0
          refine lv_dup hx hb dC_request_42 rfl ?_
          first | refine lv_aload_n hx hb dC_request_43 rfl (lv_at hl 1 rfl) ?_ | refine lv_aload_nN hx hb dC_request_43 rfl (lv_at hl 1 rfl) ?_
          refine gC_C_requestCount hC hH dC_request_44 ?_
          first | refine lv_aload hx hb dC_request_47 (lv_at hl 0 rfl) ?_ | refine lv_aloadN hx hb dC_request_47 (lv_at hl 0 rfl) ?_
          refine lv_lload_n hx hb dC_request_49 rfl (lv_at hl 3 rfl) ?_
          refine lv_iload hx hb dC_request_50 (lv_at hl 4 rfl) ?_
          refine gcWI hC hl.1 hA hN (fun L2 f2 sz h2 => c_Rinit h2 (List.mem_append_right _ (List.mem_singleton.mpr rfl)) (va_up_self _ _ _) _ _ _ _) kC_77 ⟨Nat.le_of_ble_eq_true rfl, Nat.le_of_ble_eq_true rfl⟩ dC_request_52 ⟨Nat.le_of_ble_eq_true rfl, Nat.le_of_ble_eq_true rfl⟩ rfl (Nat.le_of_ble_eq_true rfl) (fun g H locs hg hN => ?_)
          subst hg
          rw [bx_uu] at hN
          have e1 := hI.ext hq (.inr (0, [.int (nI (nR x)), .ref (aTo d t), .long inp, .int z, .int 0, .int 0, .int 0, .int 0, .long 0, .null, .int 0]))
          have hH : cG D k d x A s.heap H locs := gH.to hN e1
          first | refine lv_astore hx hb dC_request_55 hl (by decide) rfl (fun ls hl => ?_) | refine lv_astoreN hx hb dC_request_55 hl (by decide) rfl (fun ls hl => ?_)
          have hl : lv_has ls 7 [(6, _), (5, _), (0, _), (1, _), (2, _), (4, _)] := hl
          first | refine lv_aload_n hx hb dC_request_57 rfl (lv_at hl 2 rfl) ?_ | refine lv_aload_nN hx hb dC_request_57 rfl (lv_at hl 2 rfl) ?_
          refine gC_C_requests hC hH dC_request_58 ?_
          first | refine lv_aload_n hx hb dC_request_61 rfl (lv_at hl 2 rfl) ?_ | refine lv_aload_nN hx hb dC_request_61 rfl (lv_at hl 2 rfl) ?_
          refine gC_C_requestCount hC hH dC_request_62 ?_
          first | refine lv_aload hx hb dC_request_65 (lv_at hl 0 rfl) ?_ | refine lv_aloadN hx hb dC_request_65 (lv_at hl 0 rfl) ?_
          refine rp_astq hC hN 2 0 e1.2.2.2.2.1.1 e1.2.2.2.2.1.2 rfl (List.mem_append_right _ (List.mem_singleton.mpr rfl)) (va_up_self _ _ _) rfl hn (by decide) dC_request_67 (fun H locs hN => ?_)
          have hne : kO k ≠ kRs k := fun z => by have h1 := hI.2.1.2; rw [z, hI.2.2.2.2.1.2] at h1; cases h1
          have hq2 : kO k ≠ q := fun z => hq (z ▸ hI.2.1.1)
          first | refine lv_aload_n hx hb dC_request_68 rfl (lv_at hl 2 rfl) ?_ | refine lv_aload_nN hx hb dC_request_68 rfl (lv_at hl 2 rfl) ?_
          refine lv_dup hx hb dC_request_69 rfl ?_
          refine rp_get hC hN inX3 e1.2.1.1 (by rw [va_up_ne _ _ hne, va_up_ne _ _ hq2]; exact hI.2.1.2) rfl 9 (by decide) wf_C_74 rfl dC_request_70 ?_
          refine lv_iconst (v := 1) hx hb dC_request_73 (by decide) ?_
          refine lv_iadd hx hb dC_request_74 ?_
          refine rp_put hC hN inX3 tyX3 tyX3_ok nmX3 e1.2.1.1 (by rw [va_up_ne _ _ hne, va_up_ne _ _ hq2]; exact hI.2.1.2) rfl 9 (by decide) wf_C_74 rfl rfl rfl (Nat.le_of_ble_eq_true rfl) dC_request_75 (fun H locs hN => ?_)
          rw [nI_1] at hN
          have hz := hI.pushR hq hn (t, inp, z, 0, 0, false, false, 0, none, 0) ht rfl
          have hH : cG D k (aTo d, aWo d, va_up (aRq d) (nR x) q) (aR x (t, inp, z, 0, 0, false, false, 0, none, 0)) A s.heap H locs := gH.to hN hz
          first | refine lv_aload hx hb dC_request_78 (lv_at hl 0 rfl) ?_ | refine lv_aloadN hx hb dC_request_78 (lv_at hl 0 rfl) ?_
          refine rp_get hC hN inX0 (List.mem_append_right _ (List.mem_singleton.mpr rfl)) (up3q (fun z => hq (z ▸ hI.2.2.2.2.1.1)) (fun z => hq2 z.symm)) rfl 0 (by decide) wf_C_80 rfl dC_request_80 ?_
          exact grWi hC hr (by assumption) rfl hH (by simp only [zReq, hlk]; rw [if_pos ⟨hn, h2, h3⟩]) dC_request_83
        · refine lv_iconst (v := -1) hx hb dC_request_37 (by decide) ?_
          refine W.widen (k := 1) (n := 11) (by decide) (by decide) ?_
          exact grWi hC hr (by assumption) rfl hH (by simp only [zReq, hlk]; rw [if_neg (fun q => h3 q.2.2)]) dC_request_38
  · have hlk2 : lk (nT x) v = none := lk_out hv
    first | refine lv_astore hx hb dC_request_5 hl (by decide) rfl (fun ls hl => ?_) | refine lv_astoreN hx hb dC_request_5 hl (by decide) rfl (fun ls hl => ?_)
    have hl : lv_has ls 7 [(5, _), (0, _), (1, _), (2, _), (4, _)] := hl
    first | refine lv_aload hx hb dC_request_7 (lv_at hl 0 rfl) ?_ | refine lv_aloadN hx hb dC_request_7 (lv_at hl 0 rfl) ?_
    first | refine lv_ifnull hx hb dC_request_9 ?_ | refine lv_ifnullN (tgt := 37) hx hb dC_request_9 (by decide) ?_
    refine lv_iconst (v := -1) hx hb dC_request_37 (by decide) ?_
    refine W.widen (k := 1) (n := 11) (by decide) (by decide) ?_
    exact grWi hC hr hlk rfl hH (by simp only [zReq, hlk2]) dC_request_38
end C4
end
section
section C5
variable {l : Launch} {D : va_G} {k : ck_F} {d : ck_A} {x : cs_S} {LL : List Nat} {f : Nat → va_E} {sz : Nat}
theorem sW_sR (x : cs_S) (i j : Nat) (w : cs_W) (r : cs_R) : sW (sR x j r) i w = sR (sW x i w) j r := rfl
theorem sT_sR (x : cs_S) (i j : Nat) (t : cs_T) (r : cs_R) : sT (sR x j r) i t = sR (sT x i t) j r := rfl
theorem sT_sW (x : cs_S) (i j : Nat) (t : cs_T) (w : cs_W) : sT (sW x j w) i t = sW (sT x i t) j w := rfl
theorem gW_sR (x : cs_S) (j : Nat) (r : cs_R) : gW (sR x j r) = gW x := rfl
theorem gR_sW (x : cs_S) (i : Nat) (w : cs_W) : gR (sW x i w) = gR x := rfl
theorem gT_sW (x : cs_S) (i : Nat) (w : cs_W) : gT (sW x i w) = gT x := rfl
theorem gT_sR (x : cs_S) (j : Nat) (r : cs_R) : gT (sR x j r) = gT x := rfl
theorem gW_sT (x : cs_S) (i : Nat) (t : cs_T) : gW (sT x i t) = gW x := rfl
theorem gR_sT (x : cs_S) (i : Nat) (t : cs_T) : gR (sT x i t) = gR x := rfl
def zMove (x : cs_S) (j : Nat) : cs_S × Int32 := if ¬ tBa (gT x (rTo (gR x j))) < 3 then (sR x j (qDone (gR x j) none (os (tEd (gT x (rTo (gR x j)))) (rIn (gR x j)))), 1) else match ffr x (rTo (gR x j)) 60 0 with
  | some i => (zBegin x j i, 1)
  | none => if nW x < 60 ∧ cst x (rTo (gR x j)) 60 < cMo x then (zBegin (aW x (rTo (gR x j), tEd (gT x (rTo (gR x j))), 0, 0, 0, 0, 0, none)) j (nW x), 1) else (x, 0)
def zStepF (x : cs_S) : Nat → cs_S × Int32
  | 0 => (x, 0)
  | j + 1 => if j < nR (zStepF x j).1 ∧ rSt (gR (zStepF x j).1 j) = 0 then ((zMove (zStepF x j).1 j).1, if (zMove (zStepF x j).1 j).2 = 0 then (zStepF x j).2 else (zStepF x j).2 + 1) else zStepF x j
theorem ffr_lt {x : cs_S} {t : Nat} : ∀ (n i a : Nat), ffr x t n i = some a → a < nW x
  | 0, i, a, h => by cases h
  | n + 1, i, a, h => by
    unfold ffr at h
    split at h
    · next q => cases h; exact q.1
    · exact ffr_lt n (i + 1) a h
set_option maxHeartbeats 4000000 in
set_option maxRecDepth 100000 in
theorem c_moveOn (hI : cJ k (d, x) LL f) {j : Nat} (hj : j < nR x) : Met l yC_moveOn (wz yC_moveOn bC_moveOn 4 (some .boolean)) (rmL 3 1 9) (gP D (ck_tys k) LL f sz [.ref (kO k), .ref (aRq d j)]) (va_Qi (fun (r : Int32) (u : ck_A × cs_S) => (u.2, r) = zMove x j) (gB D (ck_tys k) (cJ k) (va_A (va_pl LL f) sz)) (va_A (va_pl LL f) sz)) 1 9 (va_A (va_pl LL f) sz) := by
  refine gMet (own := RX3) (u := (d, x)) (Qc := fun A => va_Qi (fun (r : Int32) (u : ck_A × cs_S) => (u.2, r) = zMove x j) (gB D (ck_tys k) (cJ k) A) A) (by decide) rfl hI (Nat.le_of_ble_eq_true rfl) ?_
  intro p e s m below meth c ls A hC hr hlk hnm hA hH hl
  have hx := hC.1
  have hb := hC.2.1
  have hml := hC.2.2.2.2.2
  have hts := hC.2.2.1
  have hown := hC.2.2.2.1
  have hl : lv_has ls 4 [(0, _), (1, _)] := hl
  have htj := ((cG.ok hH).2.2 j hj).1
  first | refine lv_aload_n hx hb dC_moveOn_0 rfl (lv_at hl 1 rfl) ?_ | refine lv_aload_nN hx hb dC_moveOn_0 rfl (lv_at hl 1 rfl) ?_
  refine gC_R_tool hC hH (by assumption) dC_moveOn_1 ?_
  first | refine lv_astore_n hx hb dC_moveOn_4 rfl hl (by decide) rfl (fun ls hl => ?_) | refine lv_astore_nN hx hb dC_moveOn_4 rfl hl (by decide) rfl (fun ls hl => ?_)
  have hl : lv_has ls 4 [(2, _), (0, _), (1, _)] := hl
  first | refine lv_aload_n hx hb dC_moveOn_5 rfl (lv_at hl 0 rfl) ?_ | refine lv_aload_nN hx hb dC_moveOn_5 rfl (lv_at hl 0 rfl) ?_
  refine gC_T_bars hC hH (by assumption) dC_moveOn_6 ?_
  refine lv_iconst (v := 3) hx hb dC_moveOn_9 (by decide) ?_
  refine lv_icmp_lt  (tgt := 31) hx hb dC_moveOn_10 (by decide) (fun h => ?_) (fun h => ?_)
  · first | refine lv_aload_n hx hb dC_moveOn_31 rfl (lv_at hl 1 rfl) ?_ | refine lv_aload_nN hx hb dC_moveOn_31 rfl (lv_at hl 1 rfl) ?_
    first | refine lv_aload_n hx hb dC_moveOn_32 rfl (lv_at hl 0 rfl) ?_ | refine lv_aload_nN hx hb dC_moveOn_32 rfl (lv_at hl 0 rfl) ?_
    refine gcVq hC hl.1 hH (fun LL f sz hI => c_firstFree hI htj) cJ.o rfl rfl kC_186 ⟨Nat.le_of_ble_eq_true rfl, Nat.le_of_ble_eq_true rfl⟩ dC_moveOn_33 ⟨Nat.le_of_ble_eq_true rfl, Nat.le_of_ble_eq_true rfl⟩ rfl (Nat.le_of_ble_eq_true rfl) (fun o ho => ?_)
    subst ho
    rcases hff : ffr x (rTo (gR x j)) 60 0 with _ | i
    · first | refine lv_astore_n hx hb dC_moveOn_36 rfl hl (by decide) rfl (fun ls hl => ?_) | refine lv_astore_nN hx hb dC_moveOn_36 rfl hl (by decide) rfl (fun ls hl => ?_)
      have hl : lv_has ls 4 [(3, _), (2, _), (0, _), (1, _)] := hl
      first | refine lv_aload_n hx hb dC_moveOn_37 rfl (lv_at hl 0 rfl) ?_ | refine lv_aload_nN hx hb dC_moveOn_37 rfl (lv_at hl 0 rfl) ?_
      first | refine lv_ifnonnullN hx hb dC_moveOn_38 ?_ | refine lv_ifnonnull (tgt := 47) hx hb dC_moveOn_38 (by decide) ?_
      first | refine lv_aload_n hx hb dC_moveOn_41 rfl (lv_at hl 2 rfl) ?_ | refine lv_aload_nN hx hb dC_moveOn_41 rfl (lv_at hl 2 rfl) ?_
      first | refine lv_aload_n hx hb dC_moveOn_42 rfl (lv_at hl 1 rfl) ?_ | refine lv_aload_nN hx hb dC_moveOn_42 rfl (lv_at hl 1 rfl) ?_
      refine gcWVq hC hl.1 hA hH (fun LL f sz hI => c_startWorker hI htj) cJ.o rfl rfl kC_190 ⟨Nat.le_of_ble_eq_true rfl, Nat.le_of_ble_eq_true rfl⟩ dC_moveOn_43 ⟨Nat.le_of_ble_eq_true rfl, Nat.le_of_ble_eq_true rfl⟩ rfl (Nat.le_of_ble_eq_true rfl) (fun o u H locs hp hH => ?_)
      rcases hp with ⟨hn, q, rfl, rfl⟩ | ⟨hn, rfl, rfl⟩
      · first | refine lv_astore_n hx hb dC_moveOn_46 rfl hl (by decide) rfl (fun ls hl => ?_) | refine lv_astore_nN hx hb dC_moveOn_46 rfl hl (by decide) rfl (fun ls hl => ?_)
        have hl : lv_has ls 4 [(3, _), (2, _), (0, _), (1, _)] := hl
        first | refine lv_aload_n hx hb dC_moveOn_47 rfl (lv_at hl 0 rfl) ?_ | refine lv_aload_nN hx hb dC_moveOn_47 rfl (lv_at hl 0 rfl) ?_
        first | refine lv_ifnonnullN hx hb dC_moveOn_48 ?_ | refine lv_ifnonnull (tgt := 53) hx hb dC_moveOn_48 (by decide) ?_
        have hq : q = aWo (aTo d, va_up (aWo d) (nW x) q, aRq d) (nW x) := (va_up_self _ _ _).symm
        have hi2 : nW x < nW (aW x (rTo (gR x j), tEd (gT x (rTo (gR x j))), 0, 0, 0, 0, 0, none)) := Nat.lt_succ_self _
        have hl : lv_has ls 4 [(3, .ref (aWo (aTo d, va_up (aWo d) (nW x) q, aRq d) (nW x))), (1, .ref (aRq (aTo d, va_up (aWo d) (nW x) q, aRq d) j))] := by rw [← hq]; exact lv_sub hl [0, 3] rfl
        first | refine lv_aload_n hx hb dC_moveOn_53 rfl (lv_at hl 1 rfl) ?_ | refine lv_aload_nN hx hb dC_moveOn_53 rfl (lv_at hl 1 rfl) ?_
        first | refine lv_aload_n hx hb dC_moveOn_54 rfl (lv_at hl 0 rfl) ?_ | refine lv_aload_nN hx hb dC_moveOn_54 rfl (lv_at hl 0 rfl) ?_
        refine gcWSv hC hl.1 hA hH (fun LL f sz hI => c_beginWith (i := nW x) (j := j) hI hi2 hj) kC_193 ⟨Nat.le_of_ble_eq_true rfl, Nat.le_of_ble_eq_true rfl⟩ dC_moveOn_55 ⟨Nat.le_of_ble_eq_true rfl, Nat.le_of_ble_eq_true rfl⟩ rfl (Nat.le_of_ble_eq_true rfl) (fun u H locs hp hH => ?_)
        subst hp
        refine lv_iconst (v := 1) hx hb dC_moveOn_58 (by decide) ?_
        exact grWi hC hr hlk rfl hH (by simp only [zMove, hff]; rw [if_neg (fun q => q h), if_pos hn]) dC_moveOn_59
      · first | refine lv_astore_n hx hb dC_moveOn_46 rfl hl (by decide) rfl (fun ls hl => ?_) | refine lv_astore_nN hx hb dC_moveOn_46 rfl hl (by decide) rfl (fun ls hl => ?_)
        have hl : lv_has ls 4 [(3, _), (2, _), (0, _), (1, _)] := hl
        first | refine lv_aload_n hx hb dC_moveOn_47 rfl (lv_at hl 0 rfl) ?_ | refine lv_aload_nN hx hb dC_moveOn_47 rfl (lv_at hl 0 rfl) ?_
        first | refine lv_ifnonnullN hx hb dC_moveOn_48 ?_ | refine lv_ifnonnull (tgt := 53) hx hb dC_moveOn_48 (by decide) ?_
        refine lv_iconst (v := 0) hx hb dC_moveOn_51 (by decide) ?_
        exact grWi hC hr hlk rfl hH (by simp only [zMove, hff]; rw [if_neg (fun q => q h), if_neg hn]) dC_moveOn_52
    · have hi := ffr_lt _ _ _ hff
      first | refine lv_astore_n hx hb dC_moveOn_36 rfl hl (by decide) rfl (fun ls hl => ?_) | refine lv_astore_nN hx hb dC_moveOn_36 rfl hl (by decide) rfl (fun ls hl => ?_)
      have hl : lv_has ls 4 [(3, _), (2, _), (0, _), (1, _)] := hl
      first | refine lv_aload_n hx hb dC_moveOn_37 rfl (lv_at hl 0 rfl) ?_ | refine lv_aload_nN hx hb dC_moveOn_37 rfl (lv_at hl 0 rfl) ?_
      first | refine lv_ifnonnullN hx hb dC_moveOn_38 ?_ | refine lv_ifnonnull (tgt := 47) hx hb dC_moveOn_38 (by decide) ?_
      first | refine lv_aload_n hx hb dC_moveOn_47 rfl (lv_at hl 0 rfl) ?_ | refine lv_aload_nN hx hb dC_moveOn_47 rfl (lv_at hl 0 rfl) ?_
      first | refine lv_ifnonnullN hx hb dC_moveOn_48 ?_ | refine lv_ifnonnull (tgt := 53) hx hb dC_moveOn_48 (by decide) ?_
      first | refine lv_aload_n hx hb dC_moveOn_53 rfl (lv_at hl 3 rfl) ?_ | refine lv_aload_nN hx hb dC_moveOn_53 rfl (lv_at hl 3 rfl) ?_
      first | refine lv_aload_n hx hb dC_moveOn_54 rfl (lv_at hl 0 rfl) ?_ | refine lv_aload_nN hx hb dC_moveOn_54 rfl (lv_at hl 0 rfl) ?_
      refine gcWSv hC hl.1 hA hH (fun LL f sz hI => c_beginWith (i := i) (j := j) hI hi hj) kC_193 ⟨Nat.le_of_ble_eq_true rfl, Nat.le_of_ble_eq_true rfl⟩ dC_moveOn_55 ⟨Nat.le_of_ble_eq_true rfl, Nat.le_of_ble_eq_true rfl⟩ rfl (Nat.le_of_ble_eq_true rfl) (fun u H locs hp hH => ?_)
      subst hp
      refine lv_iconst (v := 1) hx hb dC_moveOn_58 (by decide) ?_
      refine W.widen (k := 1) (n := 9) (by decide) (by decide) ?_
      exact grWi hC hr hlk rfl hH (by simp only [zMove, hff]; rw [if_neg (fun q => q h)]) dC_moveOn_59
  · first | refine lv_aload_n hx hb dC_moveOn_13 rfl (lv_at hl 2 rfl) ?_ | refine lv_aload_nN hx hb dC_moveOn_13 rfl (lv_at hl 2 rfl) ?_
    refine lv_null hx hb dC_moveOn_14 ?_
    first | refine lv_aload_n hx hb dC_moveOn_15 rfl (lv_at hl 0 rfl) ?_ | refine lv_aload_nN hx hb dC_moveOn_15 rfl (lv_at hl 0 rfl) ?_
    refine gC_T_edition hC hH (by assumption) dC_moveOn_16 ?_
    first | refine lv_aload_n hx hb dC_moveOn_19 rfl (lv_at hl 2 rfl) ?_ | refine lv_aload_nN hx hb dC_moveOn_19 rfl (lv_at hl 2 rfl) ?_
    refine gC_R_input hC hH (by assumption) dC_moveOn_20 ?_
    refine gcTl hC.fix hl.1 (c_freshRun _ _) kC_141 ⟨Nat.le_of_ble_eq_true rfl, Nat.le_of_ble_eq_true rfl⟩ dC_moveOn_23 ⟨Nat.le_of_ble_eq_true rfl, Nat.le_of_ble_eq_true rfl⟩ rfl (Nat.le_of_ble_eq_true rfl) (fun r hr1 => ?_)
    subst hr1
    refine gcWSv hC hl.1 hA hH (fun LL f sz hI => c_leaveDoneN hI hj _) kC_124 ⟨Nat.le_of_ble_eq_true rfl, Nat.le_of_ble_eq_true rfl⟩ dC_moveOn_26 ⟨Nat.le_of_ble_eq_true rfl, Nat.le_of_ble_eq_true rfl⟩ rfl (Nat.le_of_ble_eq_true rfl) (fun u H locs hp hH => ?_)
    subst hp
    refine lv_iconst (v := 1) hx hb dC_moveOn_29 (by decide) ?_
    refine W.widen (k := 1) (n := 9) (by decide) (by decide) ?_
    exact grWi hC hr hlk rfl hH (by simp only [zMove]; rw [if_pos h]) dC_moveOn_30
set_option maxHeartbeats 4000000 in
set_option maxRecDepth 100000 in
theorem c_step (hI : cJ k (d, x) LL f) : Met l yC_step (wz yC_step bC_step 6 (some .int)) (rmL 4 100 900) (gP D (ck_tys k) LL f sz [.ref (kO k)]) (va_Qi (fun (r : Int32) (u : ck_A × cs_S) => (u.2, r) = zStepF x 100) (gB D (ck_tys k) (cJ k) (va_A (va_pl LL f) sz)) (va_A (va_pl LL f) sz)) 100 900 (va_A (va_pl LL f) sz) := by
  refine gMet (own := RX3) (u := (d, x)) (Qc := fun A => va_Qi (fun (r : Int32) (u : ck_A × cs_S) => (u.2, r) = zStepF x 100) (gB D (ck_tys k) (cJ k) A) A) (by decide) rfl hI (Nat.le_of_ble_eq_true rfl) ?_
  intro p e s m below meth c ls A hC hr hlk hnm hA hH hl
  have hx := hC.1
  have hb := hC.2.1
  have hml := hC.2.2.2.2.2
  have hts := hC.2.2.1
  have hown := hC.2.2.2.1
  have hl : lv_has ls 6 [(0, _)] := hl
  refine lv_iconst (v := 0) hx hb dC_step_0 (by decide) ?_
  refine lv_istore_n hx hb dC_step_1 rfl hl (by decide) rfl (fun ls hl => ?_)
  have hl : lv_has ls 6 [(1, _), (0, _)] := hl
  first | refine lv_aload_n hx hb dC_step_2 rfl (lv_at hl 1 rfl) ?_ | refine lv_aload_nN hx hb dC_step_2 rfl (lv_at hl 1 rfl) ?_
  refine gC_C_requests hC hH dC_step_3 ?_
  first | refine lv_astore_n hx hb dC_step_6 rfl hl (by decide) rfl (fun ls hl => ?_) | refine lv_astore_nN hx hb dC_step_6 rfl hl (by decide) rfl (fun ls hl => ?_)
  have hl : lv_has ls 6 [(2, _), (1, _), (0, _)] := hl
  first | refine lv_aload_n hx hb dC_step_7 rfl (lv_at hl 0 rfl) ?_ | refine lv_aload_nN hx hb dC_step_7 rfl (lv_at hl 0 rfl) ?_
  first | refine lC_T hC hH dC_step_8 ?_ | refine lC_W hC hH dC_step_8 ?_ | refine lC_R hC hH dC_step_8 ?_
  refine lv_istore_n hx hb dC_step_9 rfl hl (by decide) rfl (fun ls hl => ?_)
  have hl : lv_has ls 6 [(3, _), (2, _), (1, _), (0, _)] := hl
  refine lv_iconst (v := 0) hx hb dC_step_10 (by decide) ?_
  refine lv_istore hx hb dC_step_11 hl (by decide) rfl (fun ls hl => ?_)
  have hl : lv_has ls 6 [(4, _), (3, _), (2, _), (1, _), (0, _)] := hl
  refine (?_ : ∀ (n i : Nat) (v w : Int32) (ls : Array Slot) (H : Heap) (locs : List Loc) (d : ck_A), i + n = 100 → v = nI i → w = (zStepF x i).2 → cG D k d (zStepF x i).1 A s.heap H locs → lv_has ls 6 [(0, .ref (kO k)), (1, .int w), (2, .ref (kRs k)), (3, .int 100), (4, .int v)] → W p l e _ s m _ below meth c H locs i (9 * i) _ (F0 m 13 ls [])) 100 0 0 0 ls s.heap [] d rfl rfl rfl hH (lv_sub hl [4, 3, 2, 1, 0] rfl)
  intro n
  induction n with
  | zero =>
    intro i v w ls H locs d hin hv hw hH hl
    obtain rfl : i = 100 := by omega
    refine lv_iload hx hb dC_step_13 (lv_at hl 4 rfl) ?_
    refine lv_iload_n hx hb dC_step_15 rfl (lv_at hl 3 rfl) ?_
    refine lv_icmp_ge  (tgt := 56) hx hb dC_step_16 (by decide) (fun h => ?_) (fun h => ?_)
    · refine lv_iload_n hx hb dC_step_56 rfl (lv_at hl 1 rfl) ?_
      exact grWi hC hr hlk rfl hH (by rw [hw]) dC_step_57
    · exact absurd (by rw [hv]; exact nI_le (a := 100) (by omega) (by omega)) h
  | succ n ih =>
    intro i v w ls H locs d hin hv hw hH hl
    have hn := (cG.ok hH).1.2.2
    refine lv_iload hx hb dC_step_13 (lv_at hl 4 rfl) ?_
    refine lv_iload_n hx hb dC_step_15 rfl (lv_at hl 3 rfl) ?_
    refine lv_icmp_ge  (tgt := 56) hx hb dC_step_16 (by decide) (fun h => ?_) (fun h => ?_)
    · exact absurd h (by rw [hv]; exact nI_ge (b := 100) (by omega) (by decide))
    · first | refine lv_aload_n hx hb dC_step_19 rfl (lv_at hl 2 rfl) ?_ | refine lv_aload_nN hx hb dC_step_19 rfl (lv_at hl 2 rfl) ?_
      refine lv_iload hx hb dC_step_20 (lv_at hl 4 rfl) ?_
      by_cases hi : i < nR (zStepF x i).1
      · refine aC_R hC hH hi hv dC_step_22 ?_
        first | refine lv_astore hx hb dC_step_23 hl (by decide) rfl (fun ls hl => ?_) | refine lv_astoreN hx hb dC_step_23 hl (by decide) rfl (fun ls hl => ?_)
        have hl : lv_has ls 6 [(5, _), (0, _), (1, _), (2, _), (3, _), (4, _)] := hl
        first | refine lv_aload hx hb dC_step_25 (lv_at hl 0 rfl) ?_ | refine lv_aloadN hx hb dC_step_25 (lv_at hl 0 rfl) ?_
        first | refine lv_ifnull hx hb dC_step_27 ?_ | refine lv_ifnullN (tgt := 50) hx hb dC_step_27 (by decide) ?_
        first | refine lv_aload hx hb dC_step_30 (lv_at hl 0 rfl) ?_ | refine lv_aloadN hx hb dC_step_30 (lv_at hl 0 rfl) ?_
        refine gC_R_state hC hH (by assumption) dC_step_32 ?_
        refine lv_if_ne  (tgt := 50) hx hb dC_step_35 (by decide) (fun h1 => ?_) (fun h1 => ?_)
        · refine lv_iinc hx hb dC_step_50 hl (k := 5) rfl rfl (by decide) rfl (fun ls hl => ?_)
          have hl : lv_has ls 6 [(4, _), (5, _), (0, _), (1, _), (2, _), (3, _)] := hl
          refine lv_goto (tgt := 13) hx hb dC_step_53 (by decide) ?_
          refine W.widen (k := i + 1) (n := 9 * (i + 1)) (by omega) (by omega) ?_
          have hs : zStepF x (i + 1) = zStepF x i := if_neg (fun q => h1 q.2)
          exact ih (i + 1) _ _ ls H locs d (by omega) (by rw [hv]; exact nI_1 i) (by rw [hs]; exact hw) (by rw [hs]; exact hH) (lv_sub hl [2, 3, 4, 5, 0] rfl)
        · first | refine lv_aload_n hx hb dC_step_38 rfl (lv_at hl 1 rfl) ?_ | refine lv_aload_nN hx hb dC_step_38 rfl (lv_at hl 1 rfl) ?_
          first | refine lv_aload hx hb dC_step_39 (lv_at hl 0 rfl) ?_ | refine lv_aloadN hx hb dC_step_39 (lv_at hl 0 rfl) ?_
          refine gcWVi hC hl.1 hA hH (fun LL f sz hI => c_moveOn hI hi) cJ.o rfl rfl kC_96 ⟨Nat.le_of_ble_eq_true rfl, Nat.le_of_ble_eq_true rfl⟩ dC_step_41 ⟨(by show i + 1 ≤ 100; omega), (by show 9 * i + 9 ≤ 900; omega)⟩ rfl (Nat.le_of_ble_eq_true rfl) (fun r u H locs hp hH => ?_)
          obtain ⟨d2, y⟩ := u
          have hp : (y, r) = zMove (zStepF x i).1 i := hp
          have hs : zStepF x (i + 1) = (y, if r = 0 then (zStepF x i).2 else (zStepF x i).2 + 1) := by
            rw [show zStepF x (i + 1) = _ from if_pos ⟨hi, h1⟩, ← hp]
          refine lv_if_eq  (tgt := 50) hx hb dC_step_44 (by decide) (fun h2 => ?_) (fun h2 => ?_)
          · refine lv_iinc hx hb dC_step_50 hl (k := 5) rfl rfl (by decide) rfl (fun ls hl => ?_)
            have hl : lv_has ls 6 [(4, _), (5, _), (0, _), (1, _), (2, _), (3, _)] := hl
            refine lv_goto (tgt := 13) hx hb dC_step_53 (by decide) ?_
            exact ih (i + 1) _ _ ls H locs d2 (by omega) (by rw [hv]; exact nI_1 i) (by rw [hs, hw]; exact (if_pos h2).symm) (by rw [hs]; exact hH) (lv_sub hl [2, 3, 4, 5, 0] rfl)
          · refine lv_iinc hx hb dC_step_47 hl (k := 2) rfl rfl (by decide) rfl (fun ls hl => ?_)
            have hl : lv_has ls 6 [(1, _), (5, _), (0, _), (2, _), (3, _), (4, _)] := hl
            refine lv_iinc hx hb dC_step_50 hl (k := 5) rfl rfl (by decide) rfl (fun ls hl => ?_)
            have hl : lv_has ls 6 [(4, _), (1, _), (5, _), (0, _), (2, _), (3, _)] := hl
            refine lv_goto (tgt := 13) hx hb dC_step_53 (by decide) ?_
            exact ih (i + 1) _ _ ls H locs d2 (by omega) (by rw [hv]; exact nI_1 i) (by rw [hs, hw]; exact (if_neg h2).symm) (by rw [hs]; exact hH) (lv_sub hl [3, 1, 4, 5, 0] rfl)
      · refine aC_RN hC hH hi (by omega) hv dC_step_22 ?_
        first | refine lv_astore hx hb dC_step_23 hl (by decide) rfl (fun ls hl => ?_) | refine lv_astoreN hx hb dC_step_23 hl (by decide) rfl (fun ls hl => ?_)
        have hl : lv_has ls 6 [(5, _), (0, _), (1, _), (2, _), (3, _), (4, _)] := hl
        first | refine lv_aload hx hb dC_step_25 (lv_at hl 0 rfl) ?_ | refine lv_aloadN hx hb dC_step_25 (lv_at hl 0 rfl) ?_
        first | refine lv_ifnull hx hb dC_step_27 ?_ | refine lv_ifnullN (tgt := 50) hx hb dC_step_27 (by decide) ?_
        refine lv_iinc hx hb dC_step_50 hl (k := 5) rfl rfl (by decide) rfl (fun ls hl => ?_)
        have hl : lv_has ls 6 [(4, _), (5, _), (0, _), (1, _), (2, _), (3, _)] := hl
        refine lv_goto (tgt := 13) hx hb dC_step_53 (by decide) ?_
        refine W.widen (k := i + 1) (n := 9 * (i + 1)) (by omega) (by omega) ?_
        have hs : zStepF x (i + 1) = zStepF x i := if_neg (fun q => hi q.1)
        exact ih (i + 1) _ _ ls H locs d (by omega) (by rw [hv]; exact nI_1 i) (by rw [hs]; exact hw) (by rw [hs]; exact hH) (lv_sub hl [2, 3, 4, 5, 0] rfl)
end C5
end
section
section C6
variable {l : Launch} {D : va_G} {k : ck_F} {d : ck_A} {x : cs_S} {LL : List Nat} {f : Nat → va_E} {sz : Nat}
def zEdF (y : cs_S) (t : Nat) : Nat → cs_S × Int32
  | 0 => (y, 0)
  | i + 1 => if i < nW (zEdF y t i).1 ∧ wTo (gW (zEdF y t i).1 i) = t ∧ wEn (gW (zEdF y t i).1 i) = 0 then (zEndRe (zEdF y t i).1 i 1, (zEdF y t i).2 + 1) else zEdF y t i
def zEdi (x : cs_S) (v : Int32) (ed : Int64) : cs_S × Int32 := match lk (nT x) v with
  | none => (x, -1)
  | some t => zEdF (sT x t (tEd_ (gT x t) ed)) t 60
def zQui (x : cs_S) (v q : Int32) : cs_S × Int32 := match lk (nT x) v with
  | none => (x, 0)
  | some t => (sT x t (tQu_ (gT x t) q), 1)
def zCan (x : cs_S) (v : Int32) : cs_S × Int32 := match lk (nR x) v with
  | none => (x, -1)
  | some j => if rSt (gR x j) = 0 then (sR x j (qCan (gR x j)), 1) else if rSt (gR x j) = 1 then (sR x j (rUn_ (gR x j) true), 2) else (x, 0)
def zFinW (x : cs_S) (i j : Nat) : cs_W := wMe_ (wFi_ (wRq_ (gW x i) none) (wFi (gW x i) + 1)) (wMe (gW x i) + rSz (gR x j))
def zFinR (x : cs_S) (i j : Nat) : cs_R := qDone (rPl_ (gR x j) (wFi (gW x i) + 1)) (some i) (zGive x i j)
def zFin (x : cs_S) (v : Int32) : cs_S × Int32 := match lk (nW x) v with
  | none => (x, -1)
  | some i => match wRq (gW x i) with
    | none => (x, -1)
    | some j => if wMe (zFinW x i j) ≤ cBo x then (sR (sW x i (wFr_ (zFinW x i j) (cCl x))) j (zFinR x i j), nI j) else (sR (sW x i (wEn_ (zFinW x i j) 2)) j (zFinR x i j), nI j)
def zCra (x : cs_S) (v : Int32) : cs_S × Int32 := match lk (nW x) v with
  | none => (x, -1)
  | some i => if wEn (gW x i) = 0 then (match wRq (gW x i) with
    | none => sW x i (wEn_ (wRq_ (gW x i) none) 3)
    | some j => sR (sW x i (wEn_ (wRq_ (gW x i) none) 3)) j (qDone (gR x j) none (os (wEd (gW x i)) (rIn (gR x j)))), 1) else (x, -1)
def zTkF (y : cs_S) : Nat → cs_S × Int32
  | 0 => (y, 0)
  | i + 1 => if i < nW (zTkF y i).1 ∧ zSt (gW (zTkF y i).1 i) = 0 ∧ ¬ cCl (zTkF y i).1 - wFr (gW (zTkF y i).1 i) < cId (zTkF y i).1 then (sW (zTkF y i).1 i (wEn_ (gW (zTkF y i).1 i) 4), (zTkF y i).2 + 1) else zTkF y i
def zTick (x : cs_S) (n : Int32) : cs_S × Int32 := if n < 0 ∨ 10000 < n ∨ ¬ cCl x ≤ 1000000000 - n then (x, -1) else zTkF (sCl x (cCl x + n)) 60
def zRdF (x : cs_S) (j i : Nat) : Nat → cs_S × Int32
  | 0 => (x, 0)
  | a + 1 => if a < nR (zRdF x j i a).1 ∧ rSt (gR (zRdF x j i a).1 a) = 2 ∧ rWk (gR (zRdF x j i a).1 a) = some i ∧ (a = j ∨ ¬ rPl (gR (zRdF x j i a).1 a) ≤ wTr (gW (zRdF x j i a).1 i)) then (sR (zRdF x j i a).1 a (rRe_ (rWk_ (rRs_ (gR (zRdF x j i a).1 a) (os (wEd (gW (zRdF x j i a).1 i)) (rIn (gR (zRdF x j i a).1 a)))) none) true), (zRdF x j i a).2 + 1) else zRdF x j i a
def zBar (x : cs_S) (i : Nat) : cs_S := sT x (wTo (gW x i)) (tBa_ (gT x (wTo (gW x i))) (tBa (gT x (wTo (gW x i))) + 1))
def zSam (x : cs_S) (v : Int32) : cs_S × Int32 := match lk (nR x) v with
  | none => (x, -1)
  | some j => if rSt (gR x j) = 2 then (match rWk (gR x j) with
    | none => (x, -1)
    | some i => if rRs (gR x j) = os (wEd (gW x i)) (rIn (gR x j)) then (sW x i (wTr_ (gW x i) (if wTr (gW x i) < rPl (gR x j) then rPl (gR x j) else wTr (gW x i))), 0) else (zBar (if wEn (gW (zRdF x j i 100).1 i) = 0 then zEndRe (zRdF x j i 100).1 i 5 else (zRdF x j i 100).1) i, (zRdF x j i 100).2)) else (x, -1)
def zAbo (x : cs_S) (v w : Int32) : Int32 := match lk (nR x) v with
  | none => -1
  | some j => if w = 0 then rSt (gR x j) else if w = 1 then (match rWk (gR x j) with | none => -1 | some i => nI i) else if w = 2 then rBe (gR x j) else if w = 3 then bI (rUn (gR x j)) else if w = 4 then bI (rRe (gR x j)) else -1
def zRes (x : cs_S) (v : Int32) : Int64 := match lk (nR x) v with
  | none => 0
  | some j => if rSt (gR x j) = 2 then rRs (gR x j) else 0
def zWor (x : cs_S) (v w : Int32) : Int32 := match lk (nW x) v with
  | none => -1
  | some i => if w = 0 then nI (wTo (gW x i)) else if w = 1 then zSt (gW x i) else if w = 2 then wFi (gW x i) else if w = 3 then wMe (gW x i) else if w = 4 then (match wRq (gW x i) with | none => -1 | some j => nI j) else if w = 5 then wEn (gW x i) else if w = 6 then wTr (gW x i) else -1
def zBars (x : cs_S) (v : Int32) : Int32 := match lk (nT x) v with
  | none => -1
  | some t => tBa (gT x t)
theorem nW_zEndRe (x : cs_S) (i : Nat) (y : Int32) : nW (zEndRe x i y) = nW x ∧ nT (zEndRe x i y) = nT x ∧ nR (zEndRe x i y) = nR x := by
  unfold zEndRe
  split <;> exact ⟨rfl, rfl, rfl⟩
theorem zEdF_n (y : cs_S) (t : Nat) : ∀ i, nT (zEdF y t i).1 = nT y
  | 0 => rfl
  | i + 1 => by
    unfold zEdF
    split
    · rw [(nW_zEndRe _ _ _).2.1]
      exact zEdF_n y t i
    · exact zEdF_n y t i
theorem zRdF_n (x : cs_S) (j i : Nat) : ∀ a, nW (zRdF x j i a).1 = nW x ∧ gW (zRdF x j i a).1 = gW x ∧ nR (zRdF x j i a).1 = nR x
  | 0 => ⟨rfl, rfl, rfl⟩
  | a + 1 => by
    unfold zRdF
    split
    · exact zRdF_n x j i a
    · exact zRdF_n x j i a
set_option maxHeartbeats 4000000 in
set_option maxRecDepth 100000 in
theorem c_edition (hI : cJ k (d, x) LL f) (v : Int32) (ed : Int64) : Met l yC_edition (wz yC_edition bC_edition 10 (some .int)) (rmL 3 0 0) (gP D (ck_tys k) LL f sz [.ref (kO k), .int v, .long ed]) (va_Qi (fun (r : Int32) (u : ck_A × cs_S) => (u.2, r) = zEdi x v ed) (gB D (ck_tys k) (cJ k) (va_A (va_pl LL f) sz)) (va_A (va_pl LL f) sz)) 0 0 (va_A (va_pl LL f) sz) := by
  refine gMet (own := RX3) (u := (d, x)) (Qc := fun A => va_Qi (fun (r : Int32) (u : ck_A × cs_S) => (u.2, r) = zEdi x v ed) (gB D (ck_tys k) (cJ k) A) A) (by decide) rfl hI (Nat.le_of_ble_eq_true rfl) ?_
  intro p e s m below meth c ls A hC hr hlk hnm hA hH hl
  have hx := hC.1
  have hb := hC.2.1
  have hml := hC.2.2.2.2.2
  have hts := hC.2.2.1
  have hown := hC.2.2.2.1
  have hl : lv_has ls 10 [(0, _), (1, _), (2, _)] := hl
  have hn6 := (cG.ok hH).1.1
  first | refine lv_aload_n hx hb dC_edition_0 rfl (lv_at hl 0 rfl) ?_ | refine lv_aload_nN hx hb dC_edition_0 rfl (lv_at hl 0 rfl) ?_
  refine lv_iload_n hx hb dC_edition_1 rfl (lv_at hl 1 rfl) ?_
  refine gcVq hC hl.1 hH (fun LL f sz hI => c_toolAt hI v) cJ.o rfl rfl kC_51 ⟨Nat.le_of_ble_eq_true rfl, Nat.le_of_ble_eq_true rfl⟩ dC_edition_2 ⟨Nat.le_of_ble_eq_true rfl, Nat.le_of_ble_eq_true rfl⟩ rfl (Nat.le_of_ble_eq_true rfl) (fun o ho => ?_)
  rcases ho with ⟨t, ht, hv, rfl⟩ | ⟨hv, rfl⟩
  · have hkk : lk (nT x) v = some t := by rw [hv]; exact lk_in ht (by omega)
    first | refine lv_astore hx hb dC_edition_5 hl (by decide) rfl (fun ls hl => ?_) | refine lv_astoreN hx hb dC_edition_5 hl (by decide) rfl (fun ls hl => ?_)
    have hl : lv_has ls 10 [(4, _), (0, _), (1, _), (2, _)] := hl
    first | refine lv_aload hx hb dC_edition_7 (lv_at hl 0 rfl) ?_ | refine lv_aloadN hx hb dC_edition_7 (lv_at hl 0 rfl) ?_
    first | refine lv_ifnonnullN hx hb dC_edition_9 ?_ | refine lv_ifnonnull (tgt := 14) hx hb dC_edition_9 (by decide) ?_
    first | refine lv_aload hx hb dC_edition_14 (lv_at hl 0 rfl) ?_ | refine lv_aloadN hx hb dC_edition_14 (lv_at hl 0 rfl) ?_
    refine lv_lload_n hx hb dC_edition_16 rfl (lv_at hl 3 rfl) ?_
    refine pC_T_edition hC hH (by assumption) dC_edition_17 (fun H locs hH => ?_)
    refine lv_iconst (v := 0) hx hb dC_edition_20 (by decide) ?_
    refine lv_istore hx hb dC_edition_21 hl (by decide) rfl (fun ls hl => ?_)
    have hl : lv_has ls 10 [(5, _), (4, _), (0, _), (1, _), (2, _)] := hl
    first | refine lv_aload_n hx hb dC_edition_23 rfl (lv_at hl 2 rfl) ?_ | refine lv_aload_nN hx hb dC_edition_23 rfl (lv_at hl 2 rfl) ?_
    refine gC_C_workers hC hH dC_edition_24 ?_
    first | refine lv_astore hx hb dC_edition_27 hl (by decide) rfl (fun ls hl => ?_) | refine lv_astoreN hx hb dC_edition_27 hl (by decide) rfl (fun ls hl => ?_)
    have hl : lv_has ls 10 [(6, _), (5, _), (4, _), (0, _), (1, _), (2, _)] := hl
    first | refine lv_aload hx hb dC_edition_29 (lv_at hl 0 rfl) ?_ | refine lv_aloadN hx hb dC_edition_29 (lv_at hl 0 rfl) ?_
    first | refine lC_T hC hH dC_edition_31 ?_ | refine lC_W hC hH dC_edition_31 ?_ | refine lC_R hC hH dC_edition_31 ?_
    refine lv_istore hx hb dC_edition_32 hl (by decide) rfl (fun ls hl => ?_)
    have hl : lv_has ls 10 [(7, _), (6, _), (5, _), (4, _), (0, _), (1, _), (2, _)] := hl
    refine lv_iconst (v := 0) hx hb dC_edition_34 (by decide) ?_
    refine lv_istore hx hb dC_edition_35 hl (by decide) rfl (fun ls hl => ?_)
    have hl : lv_has ls 10 [(8, _), (7, _), (6, _), (5, _), (4, _), (0, _), (1, _), (2, _)] := hl
    generalize hy : sT x t (tEd_ (gT x t) ed) = y at hH
    have ht2 : t < nT y := by rw [← hy]; exact ht
    refine (?_ : ∀ (n i : Nat) (b w : Int32) (ls : Array Slot) (H : Heap) (locs : List Loc), i + n = 60 → b = nI i → w = (zEdF y t i).2 → cG D k d (zEdF y t i).1 A s.heap H locs → lv_has ls 10 [(0, .ref (kO k)), (4, .ref (aTo d t)), (5, .int w), (6, .ref (kWs k)), (7, .int 60), (8, .int b)] → W p l e _ s m _ below meth c H locs 0 0 _ (F0 m 37 ls [])) 60 0 0 0 ls _ _ rfl rfl rfl hH (lv_sub hl [5, 4, 3, 2, 1, 0] rfl)
    intro n
    induction n with
    | zero =>
      intro i b w ls H locs hin hb2 hw hH hl
      obtain rfl : i = 60 := by omega
      refine lv_iload hx hb dC_edition_37 (lv_at hl 5 rfl) ?_
      refine lv_iload hx hb dC_edition_39 (lv_at hl 4 rfl) ?_
      refine lv_icmp_ge  (tgt := 89) hx hb dC_edition_41 (by decide) (fun h => ?_) (fun h => ?_)
      · refine lv_iload hx hb dC_edition_89 (lv_at hl 2 rfl) ?_
        exact grWi hC hr hlk rfl hH (by rw [hw]; simp only [zEdi, hkk, hy]) dC_edition_91
      · exact absurd (by rw [hb2]; exact nI_le (a := 60) (by omega) (by omega)) h
    | succ n ih =>
      intro i b w ls H locs hin hb2 hw hH hl
      have hn := (cG.ok hH).1.2.1
      have ht3 : t < nT (zEdF y t i).1 := by rw [zEdF_n]; exact ht2
      refine lv_iload hx hb dC_edition_37 (lv_at hl 5 rfl) ?_
      refine lv_iload hx hb dC_edition_39 (lv_at hl 4 rfl) ?_
      refine lv_icmp_ge  (tgt := 89) hx hb dC_edition_41 (by decide) (fun h => ?_) (fun h => ?_)
      · exact absurd h (by rw [hb2]; exact nI_ge (b := 60) (by omega) (by decide))
      · first | refine lv_aload hx hb dC_edition_44 (lv_at hl 3 rfl) ?_ | refine lv_aloadN hx hb dC_edition_44 (lv_at hl 3 rfl) ?_
        refine lv_iload hx hb dC_edition_46 (lv_at hl 5 rfl) ?_
        by_cases hi : i < nW (zEdF y t i).1
        · refine aC_W hC hH hi hb2 dC_edition_48 ?_
          have hti := ((cG.ok hH).2.1 i hi).1
          first | refine lv_astore hx hb dC_edition_49 hl (by decide) rfl (fun ls hl => ?_) | refine lv_astoreN hx hb dC_edition_49 hl (by decide) rfl (fun ls hl => ?_)
          have hl : lv_has ls 10 [(9, _), (0, _), (4, _), (5, _), (6, _), (7, _), (8, _)] := hl
          first | refine lv_aload hx hb dC_edition_51 (lv_at hl 0 rfl) ?_ | refine lv_aloadN hx hb dC_edition_51 (lv_at hl 0 rfl) ?_
          first | refine lv_ifnull hx hb dC_edition_53 ?_ | refine lv_ifnullN (tgt := 83) hx hb dC_edition_53 (by decide) ?_
          first | refine lv_aload hx hb dC_edition_56 (lv_at hl 0 rfl) ?_ | refine lv_aloadN hx hb dC_edition_56 (lv_at hl 0 rfl) ?_
          refine gC_W_tool hC hH (by assumption) dC_edition_58 ?_
          first | refine lv_aload hx hb dC_edition_61 (lv_at hl 2 rfl) ?_ | refine lv_aloadN hx hb dC_edition_61 (lv_at hl 2 rfl) ?_
          refine lv_acmp_ne (rx := some (aTo d (wTo (gW (zEdF y t i).1 i)))) (ry := some (aTo d t)) (tgt := 83) hx hb dC_edition_63 (by decide) (fun h1 => ?_) (fun h1 => ?_)
          · refine lv_iinc hx hb dC_edition_83 hl (k := 6) rfl rfl (by decide) rfl (fun ls hl => ?_)
            have hl : lv_has ls 10 [(8, _), (9, _), (0, _), (4, _), (5, _), (6, _), (7, _)] := hl
            refine lv_goto (tgt := 37) hx hb dC_edition_86 (by decide) ?_
            have hs : zEdF y t (i + 1) = zEdF y t i := if_neg (fun q => h1 (by rw [q.2.1]))
            exact ih (i + 1) _ _ ls H locs (by omega) (by rw [hb2]; exact nI_1 i) (by rw [hs]; exact hw) (by rw [hs]; exact hH) (lv_sub hl [2, 3, 4, 5, 6, 0] rfl)
          · have h2 : wTo (gW (zEdF y t i).1 i) = t := cG.injT hH hti ht3 (Option.some.inj h1)
            first | refine lv_aload hx hb dC_edition_66 (lv_at hl 0 rfl) ?_ | refine lv_aloadN hx hb dC_edition_66 (lv_at hl 0 rfl) ?_
            refine gcSi hC hl.1 hH (fun LL f sz hI => c_isEnded hI hi) kC_63 ⟨Nat.le_of_ble_eq_true rfl, Nat.le_of_ble_eq_true rfl⟩ dC_edition_68 ⟨Nat.le_of_ble_eq_true rfl, Nat.le_of_ble_eq_true rfl⟩ rfl (Nat.le_of_ble_eq_true rfl) (fun r hr1 => ?_)
            refine lv_if_ne  (tgt := 83) hx hb dC_edition_71 (by decide) (fun h3 => ?_) (fun h3 => ?_)
            · refine lv_iinc hx hb dC_edition_83 hl (k := 6) rfl rfl (by decide) rfl (fun ls hl => ?_)
              have hl : lv_has ls 10 [(8, _), (9, _), (0, _), (4, _), (5, _), (6, _), (7, _)] := hl
              refine lv_goto (tgt := 37) hx hb dC_edition_86 (by decide) ?_
              have hs : zEdF y t (i + 1) = zEdF y t i := if_neg (fun q => h3 (by rw [hr1]; exact if_pos q.2.2))
              exact ih (i + 1) _ _ ls H locs (by omega) (by rw [hb2]; exact nI_1 i) (by rw [hs]; exact hw) (by rw [hs]; exact hH) (lv_sub hl [2, 3, 4, 5, 6, 0] rfl)
            · have h4 : wEn (gW (zEdF y t i).1 i) = 0 := Classical.byContradiction (fun q => by
                rw [hr1, zEnd, if_neg q] at h3
                exact absurd h3 (by decide))
              have hs : zEdF y t (i + 1) = (zEndRe (zEdF y t i).1 i 1, (zEdF y t i).2 + 1) := if_pos ⟨hi, h2, h4⟩
              first | refine lv_aload hx hb dC_edition_74 (lv_at hl 0 rfl) ?_ | refine lv_aloadN hx hb dC_edition_74 (lv_at hl 0 rfl) ?_
              refine lv_iconst (v := 1) hx hb dC_edition_76 (by decide) ?_
              refine gcWSv hC hl.1 hA hH (fun LL f sz hI => c_endAndRequeue hI hi 1) kC_67 ⟨Nat.le_of_ble_eq_true rfl, Nat.le_of_ble_eq_true rfl⟩ dC_edition_77 ⟨Nat.le_of_ble_eq_true rfl, Nat.le_of_ble_eq_true rfl⟩ rfl (Nat.le_of_ble_eq_true rfl) (fun u H locs hp hH => ?_)
              subst hp
              refine lv_iinc hx hb dC_edition_80 hl (k := 3) rfl rfl (by decide) rfl (fun ls hl => ?_)
              have hl : lv_has ls 10 [(5, _), (9, _), (0, _), (4, _), (6, _), (7, _), (8, _)] := hl
              refine lv_iinc hx hb dC_edition_83 hl (k := 6) rfl rfl (by decide) rfl (fun ls hl => ?_)
              have hl : lv_has ls 10 [(8, _), (5, _), (9, _), (0, _), (4, _), (6, _), (7, _)] := hl
              refine lv_goto (tgt := 37) hx hb dC_edition_86 (by decide) ?_
              exact ih (i + 1) _ _ ls H locs (by omega) (by rw [hb2]; exact nI_1 i) (by rw [hs, hw]; rfl) (by rw [hs]; exact hH) (lv_sub hl [3, 4, 1, 5, 6, 0] rfl)
        · refine aC_WN hC hH hi (by omega) hb2 dC_edition_48 ?_
          first | refine lv_astore hx hb dC_edition_49 hl (by decide) rfl (fun ls hl => ?_) | refine lv_astoreN hx hb dC_edition_49 hl (by decide) rfl (fun ls hl => ?_)
          have hl : lv_has ls 10 [(9, _), (0, _), (4, _), (5, _), (6, _), (7, _), (8, _)] := hl
          first | refine lv_aload hx hb dC_edition_51 (lv_at hl 0 rfl) ?_ | refine lv_aloadN hx hb dC_edition_51 (lv_at hl 0 rfl) ?_
          first | refine lv_ifnull hx hb dC_edition_53 ?_ | refine lv_ifnullN (tgt := 83) hx hb dC_edition_53 (by decide) ?_
          refine lv_iinc hx hb dC_edition_83 hl (k := 6) rfl rfl (by decide) rfl (fun ls hl => ?_)
          have hl : lv_has ls 10 [(8, _), (9, _), (0, _), (4, _), (5, _), (6, _), (7, _)] := hl
          refine lv_goto (tgt := 37) hx hb dC_edition_86 (by decide) ?_
          have hs : zEdF y t (i + 1) = zEdF y t i := if_neg (fun q => hi q.1)
          exact ih (i + 1) _ _ ls H locs (by omega) (by rw [hb2]; exact nI_1 i) (by rw [hs]; exact hw) (by rw [hs]; exact hH) (lv_sub hl [2, 3, 4, 5, 6, 0] rfl)
  · have hkk : lk (nT x) v = none := lk_out hv
    first | refine lv_astore hx hb dC_edition_5 hl (by decide) rfl (fun ls hl => ?_) | refine lv_astoreN hx hb dC_edition_5 hl (by decide) rfl (fun ls hl => ?_)
    have hl : lv_has ls 10 [(4, _), (0, _), (1, _), (2, _)] := hl
    first | refine lv_aload hx hb dC_edition_7 (lv_at hl 0 rfl) ?_ | refine lv_aloadN hx hb dC_edition_7 (lv_at hl 0 rfl) ?_
    first | refine lv_ifnonnullN hx hb dC_edition_9 ?_ | refine lv_ifnonnull (tgt := 14) hx hb dC_edition_9 (by decide) ?_
    refine lv_iconst (v := -1) hx hb dC_edition_12 (by decide) ?_
    exact grWi hC hr hlk rfl hH (by simp only [zEdi, hkk]) dC_edition_13
set_option maxHeartbeats 4000000 in
set_option maxRecDepth 100000 in
theorem c_quirk (hI : cJ k (d, x) LL f) (v q : Int32) : Met l yC_quirk (wz yC_quirk bC_quirk 4 (some .boolean)) (rmL 1 0 0) (gP D (ck_tys k) LL f sz [.ref (kO k), .int v, .int q]) (va_Qi (fun (r : Int32) (u : ck_A × cs_S) => (u.2, r) = zQui x v q) (gB D (ck_tys k) (cJ k) (va_A (va_pl LL f) sz)) (va_A (va_pl LL f) sz)) 0 0 (va_A (va_pl LL f) sz) := by
  refine gMet (own := RX3) (u := (d, x)) (Qc := fun A => va_Qi (fun (r : Int32) (u : ck_A × cs_S) => (u.2, r) = zQui x v q) (gB D (ck_tys k) (cJ k) A) A) (by decide) rfl hI (Nat.le_of_ble_eq_true rfl) ?_
  intro p e s m below meth c ls A hC hr hlk hnm hA hH hl
  have hx := hC.1
  have hb := hC.2.1
  have hml := hC.2.2.2.2.2
  have hts := hC.2.2.1
  have hown := hC.2.2.2.1
  have hl : lv_has ls 4 [(0, _), (1, _), (2, _)] := hl
  have hn6 := (cG.ok hH).1.1
  first | refine lv_aload_n hx hb dC_quirk_0 rfl (lv_at hl 0 rfl) ?_ | refine lv_aload_nN hx hb dC_quirk_0 rfl (lv_at hl 0 rfl) ?_
  refine lv_iload_n hx hb dC_quirk_1 rfl (lv_at hl 1 rfl) ?_
  refine gcVq hC hl.1 hH (fun LL f sz hI => c_toolAt hI v) cJ.o rfl rfl kC_51 ⟨Nat.le_of_ble_eq_true rfl, Nat.le_of_ble_eq_true rfl⟩ dC_quirk_2 ⟨Nat.le_of_ble_eq_true rfl, Nat.le_of_ble_eq_true rfl⟩ rfl (Nat.le_of_ble_eq_true rfl) (fun o ho => ?_)
  rcases ho with ⟨t, ht, hv, rfl⟩ | ⟨hv, rfl⟩
  · have hkk : lk (nT x) v = some t := by rw [hv]; exact lk_in ht (by omega)
    first | refine lv_astore_n hx hb dC_quirk_5 rfl hl (by decide) rfl (fun ls hl => ?_) | refine lv_astore_nN hx hb dC_quirk_5 rfl hl (by decide) rfl (fun ls hl => ?_)
    have hl : lv_has ls 4 [(3, _), (0, _), (1, _), (2, _)] := hl
    first | refine lv_aload_n hx hb dC_quirk_6 rfl (lv_at hl 0 rfl) ?_ | refine lv_aload_nN hx hb dC_quirk_6 rfl (lv_at hl 0 rfl) ?_
    first | refine lv_ifnonnullN hx hb dC_quirk_7 ?_ | refine lv_ifnonnull (tgt := 12) hx hb dC_quirk_7 (by decide) ?_
    first | refine lv_aload_n hx hb dC_quirk_12 rfl (lv_at hl 0 rfl) ?_ | refine lv_aload_nN hx hb dC_quirk_12 rfl (lv_at hl 0 rfl) ?_
    refine lv_iload_n hx hb dC_quirk_13 rfl (lv_at hl 3 rfl) ?_
    refine pC_T_quirk hC hH (by assumption) dC_quirk_14 (fun H locs hH => ?_)
    refine lv_iconst (v := 1) hx hb dC_quirk_17 (by decide) ?_
    exact grWi hC hr hlk rfl hH (by simp only [zQui, hkk]) dC_quirk_18
  · have hkk : lk (nT x) v = none := lk_out hv
    first | refine lv_astore_n hx hb dC_quirk_5 rfl hl (by decide) rfl (fun ls hl => ?_) | refine lv_astore_nN hx hb dC_quirk_5 rfl hl (by decide) rfl (fun ls hl => ?_)
    have hl : lv_has ls 4 [(3, _), (0, _), (1, _), (2, _)] := hl
    first | refine lv_aload_n hx hb dC_quirk_6 rfl (lv_at hl 0 rfl) ?_ | refine lv_aload_nN hx hb dC_quirk_6 rfl (lv_at hl 0 rfl) ?_
    first | refine lv_ifnonnullN hx hb dC_quirk_7 ?_ | refine lv_ifnonnull (tgt := 12) hx hb dC_quirk_7 (by decide) ?_
    refine lv_iconst (v := 0) hx hb dC_quirk_10 (by decide) ?_
    exact grWi hC hr hlk rfl hH (by simp only [zQui, hkk]) dC_quirk_11
set_option maxHeartbeats 4000000 in
set_option maxRecDepth 100000 in
theorem c_cancel (hI : cJ k (d, x) LL f) (v : Int32) : Met l yC_cancel (wz yC_cancel bC_cancel 3 (some .int)) (rmL 1 0 0) (gP D (ck_tys k) LL f sz [.ref (kO k), .int v]) (va_Qi (fun (r : Int32) (u : ck_A × cs_S) => (u.2, r) = zCan x v) (gB D (ck_tys k) (cJ k) (va_A (va_pl LL f) sz)) (va_A (va_pl LL f) sz)) 0 0 (va_A (va_pl LL f) sz) := by
  refine gMet (own := RX3) (u := (d, x)) (Qc := fun A => va_Qi (fun (r : Int32) (u : ck_A × cs_S) => (u.2, r) = zCan x v) (gB D (ck_tys k) (cJ k) A) A) (by decide) rfl hI (Nat.le_of_ble_eq_true rfl) ?_
  intro p e s m below meth c ls A hC hr hlk hnm hA hH hl
  have hx := hC.1
  have hb := hC.2.1
  have hml := hC.2.2.2.2.2
  have hts := hC.2.2.1
  have hown := hC.2.2.2.1
  have hl : lv_has ls 3 [(0, _), (1, _)] := hl
  have hn6 := (cG.ok hH).1.2.2
  first | refine lv_aload_n hx hb dC_cancel_0 rfl (lv_at hl 0 rfl) ?_ | refine lv_aload_nN hx hb dC_cancel_0 rfl (lv_at hl 0 rfl) ?_
  refine lv_iload_n hx hb dC_cancel_1 rfl (lv_at hl 1 rfl) ?_
  refine gcVq hC hl.1 hH (fun LL f sz hI => c_requestAt hI v) cJ.o rfl rfl kC_81 ⟨Nat.le_of_ble_eq_true rfl, Nat.le_of_ble_eq_true rfl⟩ dC_cancel_2 ⟨Nat.le_of_ble_eq_true rfl, Nat.le_of_ble_eq_true rfl⟩ rfl (Nat.le_of_ble_eq_true rfl) (fun o ho => ?_)
  rcases ho with ⟨j, hj, hv, rfl⟩ | ⟨hv, rfl⟩
  · have hkk : lk (nR x) v = some j := by rw [hv]; exact lk_in hj (by omega)
    first | refine lv_astore_n hx hb dC_cancel_5 rfl hl (by decide) rfl (fun ls hl => ?_) | refine lv_astore_nN hx hb dC_cancel_5 rfl hl (by decide) rfl (fun ls hl => ?_)
    have hl : lv_has ls 3 [(2, _), (0, _), (1, _)] := hl
    first | refine lv_aload_n hx hb dC_cancel_6 rfl (lv_at hl 0 rfl) ?_ | refine lv_aload_nN hx hb dC_cancel_6 rfl (lv_at hl 0 rfl) ?_
    first | refine lv_ifnonnullN hx hb dC_cancel_7 ?_ | refine lv_ifnonnull (tgt := 12) hx hb dC_cancel_7 (by decide) ?_
    first | refine lv_aload_n hx hb dC_cancel_12 rfl (lv_at hl 0 rfl) ?_ | refine lv_aload_nN hx hb dC_cancel_12 rfl (lv_at hl 0 rfl) ?_
    refine gC_R_state hC hH (by assumption) dC_cancel_13 ?_
    refine lv_if_ne  (tgt := 25) hx hb dC_cancel_16 (by decide) (fun h => ?_) (fun h => ?_)
    · first | refine lv_aload_n hx hb dC_cancel_25 rfl (lv_at hl 0 rfl) ?_ | refine lv_aload_nN hx hb dC_cancel_25 rfl (lv_at hl 0 rfl) ?_
      refine gC_R_state hC hH (by assumption) dC_cancel_26 ?_
      refine lv_iconst (v := 1) hx hb dC_cancel_29 (by decide) ?_
      refine lv_icmp_ne  (tgt := 40) hx hb dC_cancel_30 (by decide) (fun h2 => ?_) (fun h2 => ?_)
      · refine lv_iconst (v := 0) hx hb dC_cancel_40 (by decide) ?_
        exact grWi hC hr hlk rfl hH (by simp only [zCan, hkk]; rw [if_neg h, if_neg h2]) dC_cancel_41
      · first | refine lv_aload_n hx hb dC_cancel_33 rfl (lv_at hl 0 rfl) ?_ | refine lv_aload_nN hx hb dC_cancel_33 rfl (lv_at hl 0 rfl) ?_
        refine lv_iconst (v := 1) hx hb dC_cancel_34 (by decide) ?_
        first | refine pC_R_unwanted0 hC hH (by assumption) dC_cancel_35 (fun H locs hH => ?_) | refine pC_R_unwanted1 hC hH (by assumption) dC_cancel_35 (fun H locs hH => ?_)
        refine lv_iconst (v := 2) hx hb dC_cancel_38 (by decide) ?_
        exact grWi hC hr hlk rfl hH (by simp only [zCan, hkk]; rw [if_neg h, if_pos h2]) dC_cancel_39
    · first | refine lv_aload_n hx hb dC_cancel_19 rfl (lv_at hl 0 rfl) ?_ | refine lv_aload_nN hx hb dC_cancel_19 rfl (lv_at hl 0 rfl) ?_
      refine gcWSv hC hl.1 hA hH (fun LL f sz hI => c_becomeCancelled hI hj) kC_88 ⟨Nat.le_of_ble_eq_true rfl, Nat.le_of_ble_eq_true rfl⟩ dC_cancel_20 ⟨Nat.le_of_ble_eq_true rfl, Nat.le_of_ble_eq_true rfl⟩ rfl (Nat.le_of_ble_eq_true rfl) (fun u H locs hp hH => ?_)
      subst hp
      refine lv_iconst (v := 1) hx hb dC_cancel_23 (by decide) ?_
      exact grWi hC hr hlk rfl hH (by simp only [zCan, hkk]; rw [if_pos h]) dC_cancel_24
  · have hkk : lk (nR x) v = none := lk_out hv
    first | refine lv_astore_n hx hb dC_cancel_5 rfl hl (by decide) rfl (fun ls hl => ?_) | refine lv_astore_nN hx hb dC_cancel_5 rfl hl (by decide) rfl (fun ls hl => ?_)
    have hl : lv_has ls 3 [(2, _), (0, _), (1, _)] := hl
    first | refine lv_aload_n hx hb dC_cancel_6 rfl (lv_at hl 0 rfl) ?_ | refine lv_aload_nN hx hb dC_cancel_6 rfl (lv_at hl 0 rfl) ?_
    first | refine lv_ifnonnullN hx hb dC_cancel_7 ?_ | refine lv_ifnonnull (tgt := 12) hx hb dC_cancel_7 (by decide) ?_
    refine lv_iconst (v := -1) hx hb dC_cancel_10 (by decide) ?_
    exact grWi hC hr hlk rfl hH (by simp only [zCan, hkk]) dC_cancel_11
set_option maxHeartbeats 4000000 in
set_option maxRecDepth 100000 in
theorem c_finish (hI : cJ k (d, x) LL f) (v : Int32) : Met l yC_finish (wz yC_finish bC_finish 6 (some .int)) (rmL 2 0 0) (gP D (ck_tys k) LL f sz [.ref (kO k), .int v]) (va_Qi (fun (r : Int32) (u : ck_A × cs_S) => (u.2, r) = zFin x v) (gB D (ck_tys k) (cJ k) (va_A (va_pl LL f) sz)) (va_A (va_pl LL f) sz)) 0 0 (va_A (va_pl LL f) sz) := by
  refine gMet (own := RX3) (u := (d, x)) (Qc := fun A => va_Qi (fun (r : Int32) (u : ck_A × cs_S) => (u.2, r) = zFin x v) (gB D (ck_tys k) (cJ k) A) A) (by decide) rfl hI (Nat.le_of_ble_eq_true rfl) ?_
  intro p e s m below meth c ls A hC hr hlk hnm hA hH hl
  have hx := hC.1
  have hb := hC.2.1
  have hml := hC.2.2.2.2.2
  have hts := hC.2.2.1
  have hown := hC.2.2.2.1
  have hl : lv_has ls 6 [(0, _), (1, _)] := hl
  have hn6 := (cG.ok hH).1.2.1
  first | refine lv_aload_n hx hb dC_finish_0 rfl (lv_at hl 0 rfl) ?_ | refine lv_aload_nN hx hb dC_finish_0 rfl (lv_at hl 0 rfl) ?_
  refine lv_iload_n hx hb dC_finish_1 rfl (lv_at hl 1 rfl) ?_
  refine gcVq hC hl.1 hH (fun LL f sz hI => c_workerAt hI v) cJ.o rfl rfl kC_100 ⟨Nat.le_of_ble_eq_true rfl, Nat.le_of_ble_eq_true rfl⟩ dC_finish_2 ⟨Nat.le_of_ble_eq_true rfl, Nat.le_of_ble_eq_true rfl⟩ rfl (Nat.le_of_ble_eq_true rfl) (fun o ho => ?_)
  rcases ho with ⟨i, hi, hv, rfl⟩ | ⟨hv, rfl⟩
  · have hkk : lk (nW x) v = some i := by rw [hv]; exact lk_in hi (by omega)
    first | refine lv_astore_n hx hb dC_finish_5 rfl hl (by decide) rfl (fun ls hl => ?_) | refine lv_astore_nN hx hb dC_finish_5 rfl hl (by decide) rfl (fun ls hl => ?_)
    have hl : lv_has ls 6 [(2, _), (0, _), (1, _)] := hl
    first | refine lv_aload_n hx hb dC_finish_6 rfl (lv_at hl 0 rfl) ?_ | refine lv_aload_nN hx hb dC_finish_6 rfl (lv_at hl 0 rfl) ?_
    first | refine lv_ifnull hx hb dC_finish_7 ?_ | refine lv_ifnullN (tgt := 17) hx hb dC_finish_7 (by decide) ?_
    first | refine lv_aload_n hx hb dC_finish_10 rfl (lv_at hl 0 rfl) ?_ | refine lv_aload_nN hx hb dC_finish_10 rfl (lv_at hl 0 rfl) ?_
    refine gC_W_request hC hH (by assumption) dC_finish_11 ?_
    rcases hq : wRq (gW x i) with _ | j
    · first | refine lv_ifnonnullN hx hb dC_finish_14 ?_ | refine lv_ifnonnull (tgt := 19) hx hb dC_finish_14 (by decide) ?_
      refine lv_iconst (v := -1) hx hb dC_finish_17 (by decide) ?_
      exact grWi hC hr hlk rfl hH (by simp only [zFin, hkk, hq]) dC_finish_18
    · have hj := ((cG.ok hH).2.1 i hi).2 j hq
      first | refine lv_ifnonnullN hx hb dC_finish_14 ?_ | refine lv_ifnonnull (tgt := 19) hx hb dC_finish_14 (by decide) ?_
      first | refine lv_aload_n hx hb dC_finish_19 rfl (lv_at hl 0 rfl) ?_ | refine lv_aload_nN hx hb dC_finish_19 rfl (lv_at hl 0 rfl) ?_
      refine gC_W_request hC hH (by assumption) dC_finish_20 ?_
      rw [hq]
      first | refine lv_astore_n hx hb dC_finish_23 rfl hl (by decide) rfl (fun ls hl => ?_) | refine lv_astore_nN hx hb dC_finish_23 rfl hl (by decide) rfl (fun ls hl => ?_)
      have hl : lv_has ls 6 [(3, _), (2, _), (0, _), (1, _)] := hl
      first | refine lv_aload_n hx hb dC_finish_24 rfl (lv_at hl 1 rfl) ?_ | refine lv_aload_nN hx hb dC_finish_24 rfl (lv_at hl 1 rfl) ?_
      first | refine lv_aload_n hx hb dC_finish_25 rfl (lv_at hl 0 rfl) ?_ | refine lv_aload_nN hx hb dC_finish_25 rfl (lv_at hl 0 rfl) ?_
      refine gcSl hC hl.1 hH (fun LL f sz hI => c_whatItGives hI hi hj) kC_108 ⟨Nat.le_of_ble_eq_true rfl, Nat.le_of_ble_eq_true rfl⟩ dC_finish_26 ⟨Nat.le_of_ble_eq_true rfl, Nat.le_of_ble_eq_true rfl⟩ rfl (Nat.le_of_ble_eq_true rfl) (fun g hg => ?_)
      subst hg
      refine lv_lstore hx hb dC_finish_29 hl (by decide) rfl (fun ls hl => ?_)
      have hl : lv_has ls 6 [(4, _), (3, _), (2, _), (0, _), (1, _)] := hl
      first | refine lv_aload_n hx hb dC_finish_31 rfl (lv_at hl 2 rfl) ?_ | refine lv_aload_nN hx hb dC_finish_31 rfl (lv_at hl 2 rfl) ?_
      refine lv_null hx hb dC_finish_32 ?_
      first | refine pC_W_requestN hC hH (by assumption) dC_finish_33 (fun H locs hH => ?_) | refine pC_W_requestR hC hH (by assumption) (by assumption) dC_finish_33 (fun H locs hH => ?_)
      first | refine lv_aload_n hx hb dC_finish_36 rfl (lv_at hl 2 rfl) ?_ | refine lv_aload_nN hx hb dC_finish_36 rfl (lv_at hl 2 rfl) ?_
      refine lv_dup hx hb dC_finish_37 rfl ?_
      refine gC_W_finished hC hH (by assumption) dC_finish_38 ?_
      refine lv_iconst (v := 1) hx hb dC_finish_41 (by decide) ?_
      refine lv_iadd hx hb dC_finish_42 ?_
      refine pC_W_finished hC hH (by assumption) dC_finish_43 (fun H locs hH => ?_)
      first | refine lv_aload_n hx hb dC_finish_46 rfl (lv_at hl 2 rfl) ?_ | refine lv_aload_nN hx hb dC_finish_46 rfl (lv_at hl 2 rfl) ?_
      refine lv_dup hx hb dC_finish_47 rfl ?_
      refine gC_W_memory hC hH (by assumption) dC_finish_48 ?_
      first | refine lv_aload_n hx hb dC_finish_51 rfl (lv_at hl 1 rfl) ?_ | refine lv_aload_nN hx hb dC_finish_51 rfl (lv_at hl 1 rfl) ?_
      refine gC_R_size hC hH (by assumption) dC_finish_52 ?_
      refine lv_iadd hx hb dC_finish_55 ?_
      refine pC_W_memory hC hH (by assumption) dC_finish_56 (fun H locs hH => ?_)
      first | refine lv_aload_n hx hb dC_finish_59 rfl (lv_at hl 1 rfl) ?_ | refine lv_aload_nN hx hb dC_finish_59 rfl (lv_at hl 1 rfl) ?_
      first | refine lv_aload_n hx hb dC_finish_60 rfl (lv_at hl 2 rfl) ?_ | refine lv_aload_nN hx hb dC_finish_60 rfl (lv_at hl 2 rfl) ?_
      refine gC_W_finished hC hH (by assumption) dC_finish_61 ?_
      refine pC_R_place hC hH (by assumption) dC_finish_64 (fun H locs hH => ?_)
      first | refine lv_aload_n hx hb dC_finish_67 rfl (lv_at hl 1 rfl) ?_ | refine lv_aload_nN hx hb dC_finish_67 rfl (lv_at hl 1 rfl) ?_
      first | refine lv_aload_n hx hb dC_finish_68 rfl (lv_at hl 2 rfl) ?_ | refine lv_aload_nN hx hb dC_finish_68 rfl (lv_at hl 2 rfl) ?_
      refine lv_lload hx hb dC_finish_69 (lv_at hl 0 rfl) ?_
      refine gcWSv hC hl.1 hA hH (fun LL f sz hI => c_leaveDoneR (i := i) (j := j) hI hi hj _) kC_124 ⟨Nat.le_of_ble_eq_true rfl, Nat.le_of_ble_eq_true rfl⟩ dC_finish_71 ⟨Nat.le_of_ble_eq_true rfl, Nat.le_of_ble_eq_true rfl⟩ rfl (Nat.le_of_ble_eq_true rfl) (fun u H locs hp hH => ?_)
      subst hp
      simp only [sR_sR, sW_sW, gR_self, gW_self, gR_sW, gW_sR] at hH
      first | refine lv_aload_n hx hb dC_finish_74 rfl (lv_at hl 2 rfl) ?_ | refine lv_aload_nN hx hb dC_finish_74 rfl (lv_at hl 2 rfl) ?_
      refine gC_W_memory hC hH (by assumption) dC_finish_75 ?_
      first | refine lv_aload_n hx hb dC_finish_78 rfl (lv_at hl 3 rfl) ?_ | refine lv_aload_nN hx hb dC_finish_78 rfl (lv_at hl 3 rfl) ?_
      refine gC_C_bound hC hH dC_finish_79 ?_
      refine lv_icmp_le  (tgt := 93) hx hb dC_finish_82 (by decide) (fun h => ?_) (fun h => ?_)
      · first | refine lv_aload_n hx hb dC_finish_93 rfl (lv_at hl 2 rfl) ?_ | refine lv_aload_nN hx hb dC_finish_93 rfl (lv_at hl 2 rfl) ?_
        first | refine lv_aload_n hx hb dC_finish_94 rfl (lv_at hl 3 rfl) ?_ | refine lv_aload_nN hx hb dC_finish_94 rfl (lv_at hl 3 rfl) ?_
        refine gC_C_clock hC hH dC_finish_95 ?_
        refine pC_W_freeSince hC hH hi dC_finish_98 (fun H locs hH => ?_)
        simp only [sW_sR, sW_sW, gW_self, gW_sR] at hH
        first | refine lv_aload_n hx hb dC_finish_101 rfl (lv_at hl 1 rfl) ?_ | refine lv_aload_nN hx hb dC_finish_101 rfl (lv_at hl 1 rfl) ?_
        refine gC_R_number hC hH (by assumption) dC_finish_102 ?_
        exact grWi hC hr hlk rfl hH (by simp only [zFin, hkk, hq]; rw [if_pos (by simp only [gW_self, gW_sR] at h; exact h)]; rfl) dC_finish_105
      · first | refine lv_aload_n hx hb dC_finish_85 rfl (lv_at hl 2 rfl) ?_ | refine lv_aload_nN hx hb dC_finish_85 rfl (lv_at hl 2 rfl) ?_
        refine lv_iconst (v := 2) hx hb dC_finish_86 (by decide) ?_
        refine pC_W_endedBy hC hH (by assumption) dC_finish_87 (fun H locs hH => ?_)
        simp only [sW_sR, sW_sW, gW_self, gW_sR] at hH
        refine lv_goto (tgt := 101) hx hb dC_finish_90 (by decide) ?_
        first | refine lv_aload_n hx hb dC_finish_101 rfl (lv_at hl 1 rfl) ?_ | refine lv_aload_nN hx hb dC_finish_101 rfl (lv_at hl 1 rfl) ?_
        refine gC_R_number hC hH (by assumption) dC_finish_102 ?_
        exact grWi hC hr hlk rfl hH (by simp only [zFin, hkk, hq]; rw [if_neg (by simp only [gW_self, gW_sR] at h; exact h)]; rfl) dC_finish_105
  · have hkk : lk (nW x) v = none := lk_out hv
    first | refine lv_astore_n hx hb dC_finish_5 rfl hl (by decide) rfl (fun ls hl => ?_) | refine lv_astore_nN hx hb dC_finish_5 rfl hl (by decide) rfl (fun ls hl => ?_)
    have hl : lv_has ls 6 [(2, _), (0, _), (1, _)] := hl
    first | refine lv_aload_n hx hb dC_finish_6 rfl (lv_at hl 0 rfl) ?_ | refine lv_aload_nN hx hb dC_finish_6 rfl (lv_at hl 0 rfl) ?_
    first | refine lv_ifnull hx hb dC_finish_7 ?_ | refine lv_ifnullN (tgt := 17) hx hb dC_finish_7 (by decide) ?_
    refine lv_iconst (v := -1) hx hb dC_finish_17 (by decide) ?_
    exact grWi hC hr hlk rfl hH (by simp only [zFin, hkk]) dC_finish_18
end C6
end
section
section C7
variable {l : Launch} {D : va_G} {k : ck_F} {d : ck_A} {x : cs_S} {LL : List Nat} {f : Nat → va_E} {sz : Nat}
theorem zEnd_0 {w : cs_W} : zEnd w = 0 ↔ wEn w = 0 := by
  unfold zEnd
  split
  · next h => exact ⟨fun _ => h, fun _ => rfl⟩
  · next h => exact ⟨fun q => absurd q (by decide), fun q => absurd q h⟩
set_option maxHeartbeats 600000 in
set_option maxRecDepth 100000 in
theorem c_crash (hI : cJ k (d, x) LL f) (v : Int32) : Met l yC_crash (wz yC_crash bC_crash 4 (some .int)) (rmL 2 0 0) (gP D (ck_tys k) LL f sz [.ref (kO k), .int v]) (va_Qi (fun (r : Int32) (u : ck_A × cs_S) => (u.2, r) = zCra x v) (gB D (ck_tys k) (cJ k) (va_A (va_pl LL f) sz)) (va_A (va_pl LL f) sz)) 0 0 (va_A (va_pl LL f) sz) := by
  refine gMet (own := RX3) (u := (d, x)) (Qc := fun A => va_Qi (fun (r : Int32) (u : ck_A × cs_S) => (u.2, r) = zCra x v) (gB D (ck_tys k) (cJ k) A) A) (by decide) rfl hI (Nat.le_of_ble_eq_true rfl) ?_
  intro p e s m below meth c ls A hC hr hlk hnm hA hH hl
  have hx := hC.1
  have hb := hC.2.1
  have hml := hC.2.2.2.2.2
  have hts := hC.2.2.1
  have hown := hC.2.2.2.1
  have hl : lv_has ls 4 [(0, _), (1, _)] := hl
  have hn6 := (cG.ok hH).1.2.1
  first | refine lv_aload_n hx hb dC_crash_0 rfl (lv_at hl 0 rfl) ?_ | refine lv_aload_nN hx hb dC_crash_0 rfl (lv_at hl 0 rfl) ?_
  refine lv_iload_n hx hb dC_crash_1 rfl (lv_at hl 1 rfl) ?_
  refine gcVq hC hl.1 hH (fun LL f sz hI => c_workerAt hI v) cJ.o rfl rfl kC_100 ⟨Nat.le_of_ble_eq_true rfl, Nat.le_of_ble_eq_true rfl⟩ dC_crash_2 ⟨Nat.le_of_ble_eq_true rfl, Nat.le_of_ble_eq_true rfl⟩ rfl (Nat.le_of_ble_eq_true rfl) (fun o ho => ?_)
  rcases ho with ⟨i, hi, hv, rfl⟩ | ⟨hv, rfl⟩
  · have hkk : lk (nW x) v = some i := by rw [hv]; exact lk_in hi (by omega)
    first | refine lv_astore_n hx hb dC_crash_5 rfl hl (by decide) rfl (fun ls hl => ?_) | refine lv_astore_nN hx hb dC_crash_5 rfl hl (by decide) rfl (fun ls hl => ?_)
    have hl : lv_has ls 4 [(2, _), (0, _), (1, _)] := hl
    first | refine lv_aload_n hx hb dC_crash_6 rfl (lv_at hl 0 rfl) ?_ | refine lv_aload_nN hx hb dC_crash_6 rfl (lv_at hl 0 rfl) ?_
    first | refine lv_ifnull hx hb dC_crash_7 ?_ | refine lv_ifnullN (tgt := 17) hx hb dC_crash_7 (by decide) ?_
    first | refine lv_aload_n hx hb dC_crash_10 rfl (lv_at hl 0 rfl) ?_ | refine lv_aload_nN hx hb dC_crash_10 rfl (lv_at hl 0 rfl) ?_
    refine gcSi hC hl.1 hH (fun LL f sz hI => c_isEnded hI hi) kC_63 ⟨Nat.le_of_ble_eq_true rfl, Nat.le_of_ble_eq_true rfl⟩ dC_crash_11 ⟨Nat.le_of_ble_eq_true rfl, Nat.le_of_ble_eq_true rfl⟩ rfl (Nat.le_of_ble_eq_true rfl) (fun r hr1 => ?_)
    refine lv_if_eq  (tgt := 19) hx hb dC_crash_14 (by decide) (fun h => ?_) (fun h => ?_)
    · have h0 : wEn (gW x i) = 0 := zEnd_0.mp (by rw [← hr1]; exact h)
      first | refine lv_aload_n hx hb dC_crash_19 rfl (lv_at hl 0 rfl) ?_ | refine lv_aload_nN hx hb dC_crash_19 rfl (lv_at hl 0 rfl) ?_
      refine gC_W_request hC hH (by assumption) dC_crash_20 ?_
      rcases hq : wRq (gW x i) with _ | j
      · first | refine lv_astore_n hx hb dC_crash_23 rfl hl (by decide) rfl (fun ls hl => ?_) | refine lv_astore_nN hx hb dC_crash_23 rfl hl (by decide) rfl (fun ls hl => ?_)
        have hl : lv_has ls 4 [(3, _), (2, _), (0, _), (1, _)] := hl
        first | refine lv_aload_n hx hb dC_crash_24 rfl (lv_at hl 1 rfl) ?_ | refine lv_aload_nN hx hb dC_crash_24 rfl (lv_at hl 1 rfl) ?_
        refine lv_null hx hb dC_crash_25 ?_
        first | refine pC_W_requestN hC hH (by assumption) dC_crash_26 (fun H locs hH => ?_) | refine pC_W_requestR hC hH (by assumption) (by assumption) dC_crash_26 (fun H locs hH => ?_)
        first | refine lv_aload_n hx hb dC_crash_29 rfl (lv_at hl 1 rfl) ?_ | refine lv_aload_nN hx hb dC_crash_29 rfl (lv_at hl 1 rfl) ?_
        refine lv_iconst (v := 3) hx hb dC_crash_30 (by decide) ?_
        refine pC_W_endedBy hC hH (by assumption) dC_crash_31 (fun H locs hH => ?_)
        first | refine lv_aload_n hx hb dC_crash_34 rfl (lv_at hl 0 rfl) ?_ | refine lv_aload_nN hx hb dC_crash_34 rfl (lv_at hl 0 rfl) ?_
        first | refine lv_ifnull hx hb dC_crash_35 ?_ | refine lv_ifnullN (tgt := 54) hx hb dC_crash_35 (by decide) ?_
        refine lv_iconst (v := 1) hx hb dC_crash_54 (by decide) ?_
        exact grWi hC hr hlk rfl hH (by simp only [zCra, hkk, hq, sW_sW, gW_self]; rw [if_pos h0]) dC_crash_55
      · have hj := ((cG.ok hH).2.1 i hi).2 j hq
        first | refine lv_astore_n hx hb dC_crash_23 rfl hl (by decide) rfl (fun ls hl => ?_) | refine lv_astore_nN hx hb dC_crash_23 rfl hl (by decide) rfl (fun ls hl => ?_)
        have hl : lv_has ls 4 [(3, _), (2, _), (0, _), (1, _)] := hl
        first | refine lv_aload_n hx hb dC_crash_24 rfl (lv_at hl 1 rfl) ?_ | refine lv_aload_nN hx hb dC_crash_24 rfl (lv_at hl 1 rfl) ?_
        refine lv_null hx hb dC_crash_25 ?_
        first | refine pC_W_requestN hC hH (by assumption) dC_crash_26 (fun H locs hH => ?_) | refine pC_W_requestR hC hH (by assumption) (by assumption) dC_crash_26 (fun H locs hH => ?_)
        first | refine lv_aload_n hx hb dC_crash_29 rfl (lv_at hl 1 rfl) ?_ | refine lv_aload_nN hx hb dC_crash_29 rfl (lv_at hl 1 rfl) ?_
        refine lv_iconst (v := 3) hx hb dC_crash_30 (by decide) ?_
        refine pC_W_endedBy hC hH (by assumption) dC_crash_31 (fun H locs hH => ?_)
        first | refine lv_aload_n hx hb dC_crash_34 rfl (lv_at hl 0 rfl) ?_ | refine lv_aload_nN hx hb dC_crash_34 rfl (lv_at hl 0 rfl) ?_
        first | refine lv_ifnull hx hb dC_crash_35 ?_ | refine lv_ifnullN (tgt := 54) hx hb dC_crash_35 (by decide) ?_
        first | refine lv_aload_n hx hb dC_crash_38 rfl (lv_at hl 0 rfl) ?_ | refine lv_aload_nN hx hb dC_crash_38 rfl (lv_at hl 0 rfl) ?_
        refine lv_null hx hb dC_crash_39 ?_
        first | refine lv_aload_n hx hb dC_crash_40 rfl (lv_at hl 1 rfl) ?_ | refine lv_aload_nN hx hb dC_crash_40 rfl (lv_at hl 1 rfl) ?_
        refine gC_W_edition hC hH (by assumption) dC_crash_41 ?_
        first | refine lv_aload_n hx hb dC_crash_44 rfl (lv_at hl 0 rfl) ?_ | refine lv_aload_nN hx hb dC_crash_44 rfl (lv_at hl 0 rfl) ?_
        refine gC_R_input hC hH (by assumption) dC_crash_45 ?_
        refine gcTl hC.fix hl.1 (c_freshRun _ _) kC_141 ⟨Nat.le_of_ble_eq_true rfl, Nat.le_of_ble_eq_true rfl⟩ dC_crash_48 ⟨Nat.le_of_ble_eq_true rfl, Nat.le_of_ble_eq_true rfl⟩ rfl (Nat.le_of_ble_eq_true rfl) (fun r hr1 => ?_)
        subst hr1
        refine gcWSv hC hl.1 hA hH (fun LL f sz hI => c_leaveDoneN hI hj _) kC_124 ⟨Nat.le_of_ble_eq_true rfl, Nat.le_of_ble_eq_true rfl⟩ dC_crash_51 ⟨Nat.le_of_ble_eq_true rfl, Nat.le_of_ble_eq_true rfl⟩ rfl (Nat.le_of_ble_eq_true rfl) (fun u H locs hp hH => ?_)
        subst hp
        refine lv_iconst (v := 1) hx hb dC_crash_54 (by decide) ?_
        exact grWi hC hr hlk rfl hH (by simp only [zCra, hkk, hq, sW_sW, gW_self, gR_sW]; rw [if_pos h0]) dC_crash_55
    · have h0 : ¬ wEn (gW x i) = 0 := fun q => h (by rw [hr1]; exact zEnd_0.mpr q)
      refine lv_iconst (v := -1) hx hb dC_crash_17 (by decide) ?_
      exact grWi hC hr hlk rfl hH (by simp only [zCra, hkk]; rw [if_neg h0]) dC_crash_18
  · have hkk : lk (nW x) v = none := lk_out hv
    first | refine lv_astore_n hx hb dC_crash_5 rfl hl (by decide) rfl (fun ls hl => ?_) | refine lv_astore_nN hx hb dC_crash_5 rfl hl (by decide) rfl (fun ls hl => ?_)
    have hl : lv_has ls 4 [(2, _), (0, _), (1, _)] := hl
    first | refine lv_aload_n hx hb dC_crash_6 rfl (lv_at hl 0 rfl) ?_ | refine lv_aload_nN hx hb dC_crash_6 rfl (lv_at hl 0 rfl) ?_
    first | refine lv_ifnull hx hb dC_crash_7 ?_ | refine lv_ifnullN (tgt := 17) hx hb dC_crash_7 (by decide) ?_
    refine lv_iconst (v := -1) hx hb dC_crash_17 (by decide) ?_
    exact grWi hC hr hlk rfl hH (by simp only [zCra, hkk]) dC_crash_18
set_option maxHeartbeats 600000 in
set_option maxRecDepth 100000 in
theorem c_tick (hI : cJ k (d, x) LL f) (v : Int32) : Met l yC_tick (wz yC_tick bC_tick 7 (some .int)) (rmL 2 0 0) (gP D (ck_tys k) LL f sz [.ref (kO k), .int v]) (va_Qi (fun (r : Int32) (u : ck_A × cs_S) => (u.2, r) = zTick x v) (gB D (ck_tys k) (cJ k) (va_A (va_pl LL f) sz)) (va_A (va_pl LL f) sz)) 0 0 (va_A (va_pl LL f) sz) := by
  refine gMet (own := RX3) (u := (d, x)) (Qc := fun A => va_Qi (fun (r : Int32) (u : ck_A × cs_S) => (u.2, r) = zTick x v) (gB D (ck_tys k) (cJ k) A) A) (by decide) rfl hI (Nat.le_of_ble_eq_true rfl) ?_
  intro p e s m below meth c ls A hC hr hlk hnm hA hH hl
  have hx := hC.1
  have hb := hC.2.1
  have hml := hC.2.2.2.2.2
  have hts := hC.2.2.1
  have hown := hC.2.2.2.1
  have hl : lv_has ls 7 [(0, _), (1, _)] := hl
  refine lv_iload_n hx hb dC_tick_0 rfl (lv_at hl 1 rfl) ?_
  refine lv_if_lt  (tgt := 22) hx hb dC_tick_1 (by decide) (fun h => ?_) (fun h => ?_)
  · refine lv_iconst (v := -1) hx hb dC_tick_22 (by decide) ?_
    exact grWi hC hr hlk rfl hH (by rw [zTick, if_pos (Or.inl h)]) dC_tick_23
  · refine lv_iload_n hx hb dC_tick_4 rfl (lv_at hl 1 rfl) ?_
    refine lv_sipush (v := 10000) hx hb dC_tick_5 (by decide) ?_
    refine lv_icmp_gt  (tgt := 22) hx hb dC_tick_8 (by decide) (fun h2 => ?_) (fun h2 => ?_)
    · refine lv_iconst (v := -1) hx hb dC_tick_22 (by decide) ?_
      exact grWi hC hr hlk rfl hH (by rw [zTick, if_pos (Or.inr (Or.inl h2))]) dC_tick_23
    · first | refine lv_aload_n hx hb dC_tick_11 rfl (lv_at hl 0 rfl) ?_ | refine lv_aload_nN hx hb dC_tick_11 rfl (lv_at hl 0 rfl) ?_
      refine gC_C_clock hC hH dC_tick_12 ?_
      refine lv_ldc hx hb hown (hts _ wq_C_145) dC_tick_15 ?_
      refine lv_iload_n hx hb dC_tick_17 rfl (lv_at hl 1 rfl) ?_
      refine lv_isub hx hb dC_tick_18 ?_
      refine lv_icmp_le  (tgt := 24) hx hb dC_tick_19 (by decide) (fun h3 => ?_) (fun h3 => ?_)
      · first | refine lv_aload_n hx hb dC_tick_24 rfl (lv_at hl 0 rfl) ?_ | refine lv_aload_nN hx hb dC_tick_24 rfl (lv_at hl 0 rfl) ?_
        refine lv_dup hx hb dC_tick_25 rfl ?_
        refine gC_C_clock hC hH dC_tick_26 ?_
        refine lv_iload_n hx hb dC_tick_29 rfl (lv_at hl 1 rfl) ?_
        refine lv_iadd hx hb dC_tick_30 ?_
        refine pC_C_clock hC hH dC_tick_31 (fun H locs hH => ?_)
        refine lv_iconst (v := 0) hx hb dC_tick_34 (by decide) ?_
        refine lv_istore_n hx hb dC_tick_35 rfl hl (by decide) rfl (fun ls hl => ?_)
        have hl : lv_has ls 7 [(2, _), (0, _), (1, _)] := hl
        first | refine lv_aload_n hx hb dC_tick_36 rfl (lv_at hl 1 rfl) ?_ | refine lv_aload_nN hx hb dC_tick_36 rfl (lv_at hl 1 rfl) ?_
        refine gC_C_workers hC hH dC_tick_37 ?_
        first | refine lv_astore_n hx hb dC_tick_40 rfl hl (by decide) rfl (fun ls hl => ?_) | refine lv_astore_nN hx hb dC_tick_40 rfl hl (by decide) rfl (fun ls hl => ?_)
        have hl : lv_has ls 7 [(3, _), (2, _), (0, _), (1, _)] := hl
        first | refine lv_aload_n hx hb dC_tick_41 rfl (lv_at hl 0 rfl) ?_ | refine lv_aload_nN hx hb dC_tick_41 rfl (lv_at hl 0 rfl) ?_
        first | refine lC_T hC hH dC_tick_42 ?_ | refine lC_W hC hH dC_tick_42 ?_ | refine lC_R hC hH dC_tick_42 ?_
        refine lv_istore hx hb dC_tick_43 hl (by decide) rfl (fun ls hl => ?_)
        have hl : lv_has ls 7 [(4, _), (3, _), (2, _), (0, _), (1, _)] := hl
        refine lv_iconst (v := 0) hx hb dC_tick_45 (by decide) ?_
        refine lv_istore hx hb dC_tick_46 hl (by decide) rfl (fun ls hl => ?_)
        have hl : lv_has ls 7 [(5, _), (4, _), (3, _), (2, _), (0, _), (1, _)] := hl
        generalize hy : sCl x (cCl x + v) = y at hH
        refine (?_ : ∀ (n i : Nat) (b w : Int32) (ls : Array Slot) (H : Heap) (locs : List Loc), i + n = 60 → b = nI i → w = (zTkF y i).2 → cG D k d (zTkF y i).1 A s.heap H locs → lv_has ls 7 [(0, .ref (kO k)), (2, .int w), (3, .ref (kWs k)), (4, .int 60), (5, .int b)] → W p l e _ s m _ below meth c H locs 0 0 _ (F0 m 48 ls [])) 60 0 0 0 ls _ _ rfl rfl rfl hH (lv_sub hl [4, 3, 2, 1, 0] rfl)
        intro n
        induction n with
        | zero =>
          intro i b w ls H locs hin hb2 hw hH hl
          obtain rfl : i = 60 := by omega
          refine lv_iload hx hb dC_tick_48 (lv_at hl 4 rfl) ?_
          refine lv_iload hx hb dC_tick_50 (lv_at hl 3 rfl) ?_
          refine lv_icmp_ge  (tgt := 106) hx hb dC_tick_52 (by decide) (fun h9 => ?_) (fun h9 => ?_)
          · refine lv_iload_n hx hb dC_tick_106 rfl (lv_at hl 1 rfl) ?_
            exact grWi hC hr hlk rfl hH (by rw [hw, zTick, if_neg (by rintro (q | q | q); exact h q; exact h2 q; exact q h3), hy]) dC_tick_107
          · exact absurd (by rw [hb2]; exact nI_le (a := 60) (by omega) (by omega)) h9
        | succ n ih =>
          intro i b w ls H locs hin hb2 hw hH hl
          have hn := (cG.ok hH).1.2.1
          refine lv_iload hx hb dC_tick_48 (lv_at hl 4 rfl) ?_
          refine lv_iload hx hb dC_tick_50 (lv_at hl 3 rfl) ?_
          refine lv_icmp_ge  (tgt := 106) hx hb dC_tick_52 (by decide) (fun h9 => ?_) (fun h9 => ?_)
          · exact absurd h9 (by rw [hb2]; exact nI_ge (b := 60) (by omega) (by decide))
          · first | refine lv_aload_n hx hb dC_tick_55 rfl (lv_at hl 2 rfl) ?_ | refine lv_aload_nN hx hb dC_tick_55 rfl (lv_at hl 2 rfl) ?_
            refine lv_iload hx hb dC_tick_56 (lv_at hl 4 rfl) ?_
            by_cases hi : i < nW (zTkF y i).1
            · refine aC_W hC hH hi hb2 dC_tick_58 ?_
              first | refine lv_astore hx hb dC_tick_59 hl (by decide) rfl (fun ls hl => ?_) | refine lv_astoreN hx hb dC_tick_59 hl (by decide) rfl (fun ls hl => ?_)
              have hl : lv_has ls 7 [(6, _), (0, _), (2, _), (3, _), (4, _), (5, _)] := hl
              first | refine lv_aload hx hb dC_tick_61 (lv_at hl 0 rfl) ?_ | refine lv_aloadN hx hb dC_tick_61 (lv_at hl 0 rfl) ?_
              first | refine lv_ifnull hx hb dC_tick_63 ?_ | refine lv_ifnullN (tgt := 100) hx hb dC_tick_63 (by decide) ?_
              first | refine lv_aload hx hb dC_tick_66 (lv_at hl 0 rfl) ?_ | refine lv_aloadN hx hb dC_tick_66 (lv_at hl 0 rfl) ?_
              refine gcSi hC hl.1 hH (fun LL f sz hI => c_stateOf hI hi) kC_146 ⟨Nat.le_of_ble_eq_true rfl, Nat.le_of_ble_eq_true rfl⟩ dC_tick_68 ⟨Nat.le_of_ble_eq_true rfl, Nat.le_of_ble_eq_true rfl⟩ rfl (Nat.le_of_ble_eq_true rfl) (fun r hr1 => ?_)
              refine lv_if_ne  (tgt := 100) hx hb dC_tick_71 (by decide) (fun h1 => ?_) (fun h1 => ?_)
              · refine lv_iinc hx hb dC_tick_100 hl (k := 5) rfl rfl (by decide) rfl (fun ls hl => ?_)
                have hl : lv_has ls 7 [(5, _), (6, _), (0, _), (2, _), (3, _), (4, _)] := hl
                refine lv_goto (tgt := 48) hx hb dC_tick_103 (by decide) ?_
                have hs : zTkF y (i + 1) = zTkF y i := if_neg (fun q => h1 (by rw [hr1]; exact q.2.1))
                exact ih (i + 1) _ _ ls H locs (by omega) (by rw [hb2]; exact nI_1 i) (by rw [hs]; exact hw) (by rw [hs]; exact hH) (lv_sub hl [2, 3, 4, 5, 0] rfl)
              · first | refine lv_aload_n hx hb dC_tick_74 rfl (lv_at hl 1 rfl) ?_ | refine lv_aload_nN hx hb dC_tick_74 rfl (lv_at hl 1 rfl) ?_
                refine gC_C_clock hC hH dC_tick_75 ?_
                first | refine lv_aload hx hb dC_tick_78 (lv_at hl 0 rfl) ?_ | refine lv_aloadN hx hb dC_tick_78 (lv_at hl 0 rfl) ?_
                refine gC_W_freeSince hC hH (by assumption) dC_tick_80 ?_
                refine lv_isub hx hb dC_tick_83 ?_
                first | refine lv_aload_n hx hb dC_tick_84 rfl (lv_at hl 1 rfl) ?_ | refine lv_aload_nN hx hb dC_tick_84 rfl (lv_at hl 1 rfl) ?_
                refine gC_C_idle hC hH dC_tick_85 ?_
                refine lv_icmp_lt  (tgt := 100) hx hb dC_tick_88 (by decide) (fun h4 => ?_) (fun h4 => ?_)
                · refine lv_iinc hx hb dC_tick_100 hl (k := 5) rfl rfl (by decide) rfl (fun ls hl => ?_)
                  have hl : lv_has ls 7 [(5, _), (6, _), (0, _), (2, _), (3, _), (4, _)] := hl
                  refine lv_goto (tgt := 48) hx hb dC_tick_103 (by decide) ?_
                  have hs : zTkF y (i + 1) = zTkF y i := if_neg (fun q => q.2.2 h4)
                  exact ih (i + 1) _ _ ls H locs (by omega) (by rw [hb2]; exact nI_1 i) (by rw [hs]; exact hw) (by rw [hs]; exact hH) (lv_sub hl [2, 3, 4, 5, 0] rfl)
                · first | refine lv_aload hx hb dC_tick_91 (lv_at hl 0 rfl) ?_ | refine lv_aloadN hx hb dC_tick_91 (lv_at hl 0 rfl) ?_
                  refine lv_iconst (v := 4) hx hb dC_tick_93 (by decide) ?_
                  refine pC_W_endedBy hC hH (by assumption) dC_tick_94 (fun H locs hH => ?_)
                  refine lv_iinc hx hb dC_tick_97 hl (k := 2) rfl rfl (by decide) rfl (fun ls hl => ?_)
                  have hl : lv_has ls 7 [(2, _), (6, _), (0, _), (3, _), (4, _), (5, _)] := hl
                  refine lv_iinc hx hb dC_tick_100 hl (k := 5) rfl rfl (by decide) rfl (fun ls hl => ?_)
                  have hl : lv_has ls 7 [(5, _), (2, _), (6, _), (0, _), (3, _), (4, _)] := hl
                  refine lv_goto (tgt := 48) hx hb dC_tick_103 (by decide) ?_
                  have hs : zTkF y (i + 1) = (sW (zTkF y i).1 i (wEn_ (gW (zTkF y i).1 i) 4), (zTkF y i).2 + 1) := if_pos ⟨hi, by rw [← hr1]; exact h1, h4⟩
                  exact ih (i + 1) _ _ ls H locs (by omega) (by rw [hb2]; exact nI_1 i) (by rw [hs, hw]; rfl) (by rw [hs]; exact hH) (lv_sub hl [3, 1, 4, 5, 0] rfl)
            · refine aC_WN hC hH hi (by omega) hb2 dC_tick_58 ?_
              first | refine lv_astore hx hb dC_tick_59 hl (by decide) rfl (fun ls hl => ?_) | refine lv_astoreN hx hb dC_tick_59 hl (by decide) rfl (fun ls hl => ?_)
              have hl : lv_has ls 7 [(6, _), (0, _), (2, _), (3, _), (4, _), (5, _)] := hl
              first | refine lv_aload hx hb dC_tick_61 (lv_at hl 0 rfl) ?_ | refine lv_aloadN hx hb dC_tick_61 (lv_at hl 0 rfl) ?_
              first | refine lv_ifnull hx hb dC_tick_63 ?_ | refine lv_ifnullN (tgt := 100) hx hb dC_tick_63 (by decide) ?_
              refine lv_iinc hx hb dC_tick_100 hl (k := 5) rfl rfl (by decide) rfl (fun ls hl => ?_)
              have hl : lv_has ls 7 [(5, _), (6, _), (0, _), (2, _), (3, _), (4, _)] := hl
              refine lv_goto (tgt := 48) hx hb dC_tick_103 (by decide) ?_
              have hs : zTkF y (i + 1) = zTkF y i := if_neg (fun q => hi q.1)
              exact ih (i + 1) _ _ ls H locs (by omega) (by rw [hb2]; exact nI_1 i) (by rw [hs]; exact hw) (by rw [hs]; exact hH) (lv_sub hl [2, 3, 4, 5, 0] rfl)
      · refine lv_iconst (v := -1) hx hb dC_tick_22 (by decide) ?_
        exact grWi hC hr hlk rfl hH (by rw [zTick, if_pos (Or.inr (Or.inr h3))]) dC_tick_23
set_option maxHeartbeats 600000 in
set_option maxRecDepth 100000 in
theorem c_redoUntrusted (hI : cJ k (d, x) LL f) {i j : Nat} (hi : i < nW x) (hj : j < nR x) : Met l yC_redoUntrusted (wz yC_redoUntrusted bC_redoUntrusted 8 (some .int)) (rmL 1 0 0) (gP D (ck_tys k) LL f sz [.ref (kO k), .ref (aRq d j), .ref (aWo d i)]) (va_Qi (fun (r : Int32) (u : ck_A × cs_S) => u = (d, (zRdF x j i 100).1) ∧ r = (zRdF x j i 100).2) (gB D (ck_tys k) (cJ k) (va_A (va_pl LL f) sz)) (va_A (va_pl LL f) sz)) 0 0 (va_A (va_pl LL f) sz) := by
  refine gMet (own := RX3) (u := (d, x)) (Qc := fun A => va_Qi (fun (r : Int32) (u : ck_A × cs_S) => u = (d, (zRdF x j i 100).1) ∧ r = (zRdF x j i 100).2) (gB D (ck_tys k) (cJ k) A) A) (by decide) rfl hI (Nat.le_of_ble_eq_true rfl) ?_
  intro p e s m below meth c ls A hC hr hlk hnm hA hH hl
  have hx := hC.1
  have hb := hC.2.1
  have hml := hC.2.2.2.2.2
  have hts := hC.2.2.1
  have hown := hC.2.2.2.1
  have hl : lv_has ls 8 [(0, _), (1, _), (2, _)] := hl
  refine lv_iconst (v := 0) hx hb dC_redoUntrusted_0 (by decide) ?_
  refine lv_istore_n hx hb dC_redoUntrusted_1 rfl hl (by decide) rfl (fun ls hl => ?_)
  have hl : lv_has ls 8 [(3, _), (0, _), (1, _), (2, _)] := hl
  first | refine lv_aload_n hx hb dC_redoUntrusted_2 rfl (lv_at hl 1 rfl) ?_ | refine lv_aload_nN hx hb dC_redoUntrusted_2 rfl (lv_at hl 1 rfl) ?_
  refine gC_C_requests hC hH dC_redoUntrusted_3 ?_
  first | refine lv_astore hx hb dC_redoUntrusted_6 hl (by decide) rfl (fun ls hl => ?_) | refine lv_astoreN hx hb dC_redoUntrusted_6 hl (by decide) rfl (fun ls hl => ?_)
  have hl : lv_has ls 8 [(4, _), (3, _), (0, _), (1, _), (2, _)] := hl
  first | refine lv_aload hx hb dC_redoUntrusted_8 (lv_at hl 0 rfl) ?_ | refine lv_aloadN hx hb dC_redoUntrusted_8 (lv_at hl 0 rfl) ?_
  first | refine lC_T hC hH dC_redoUntrusted_10 ?_ | refine lC_W hC hH dC_redoUntrusted_10 ?_ | refine lC_R hC hH dC_redoUntrusted_10 ?_
  refine lv_istore hx hb dC_redoUntrusted_11 hl (by decide) rfl (fun ls hl => ?_)
  have hl : lv_has ls 8 [(5, _), (4, _), (3, _), (0, _), (1, _), (2, _)] := hl
  refine lv_iconst (v := 0) hx hb dC_redoUntrusted_13 (by decide) ?_
  refine lv_istore hx hb dC_redoUntrusted_14 hl (by decide) rfl (fun ls hl => ?_)
  have hl : lv_has ls 8 [(6, _), (5, _), (4, _), (3, _), (0, _), (1, _), (2, _)] := hl
  refine (?_ : ∀ (n a : Nat) (b w : Int32) (ls : Array Slot) (H : Heap) (locs : List Loc), a + n = 100 → b = nI a → w = (zRdF x j i a).2 → cG D k d (zRdF x j i a).1 A s.heap H locs → lv_has ls 8 [(0, .ref (kO k)), (1, .ref (aRq d j)), (2, .ref (aWo d i)), (3, .int w), (4, .ref (kRs k)), (5, .int 100), (6, .int b)] → W p l e _ s m _ below meth c H locs 0 0 _ (F0 m 16 ls [])) 100 0 0 0 ls _ _ rfl rfl rfl hH (lv_sub hl [4, 5, 6, 3, 2, 1, 0] rfl)
  intro n
  induction n with
  | zero =>
    intro a b w ls H locs hin hb2 hw hH hl
    obtain rfl : a = 100 := by omega
    refine lv_iload hx hb dC_redoUntrusted_16 (lv_at hl 6 rfl) ?_
    refine lv_iload hx hb dC_redoUntrusted_18 (lv_at hl 5 rfl) ?_
    refine lv_icmp_ge  (tgt := 109) hx hb dC_redoUntrusted_20 (by decide) (fun h9 => ?_) (fun h9 => ?_)
    · refine lv_iload_n hx hb dC_redoUntrusted_109 rfl (lv_at hl 3 rfl) ?_
      exact grWi hC hr hlk rfl hH ⟨rfl, hw⟩ dC_redoUntrusted_110
    · exact absurd (by rw [hb2]; exact nI_le (a := 100) (by omega) (by omega)) h9
  | succ n ih =>
    intro a b w ls H locs hin hb2 hw hH hl
    have hn := (cG.ok hH).1.2.2
    have hi2 : i < nW (zRdF x j i a).1 := by rw [(zRdF_n x j i a).1]; exact hi
    have hj2 : j < nR (zRdF x j i a).1 := by rw [(zRdF_n x j i a).2.2]; exact hj
    refine lv_iload hx hb dC_redoUntrusted_16 (lv_at hl 6 rfl) ?_
    refine lv_iload hx hb dC_redoUntrusted_18 (lv_at hl 5 rfl) ?_
    refine lv_icmp_ge  (tgt := 109) hx hb dC_redoUntrusted_20 (by decide) (fun h9 => ?_) (fun h9 => ?_)
    · exact absurd h9 (by rw [hb2]; exact nI_ge (b := 100) (by omega) (by decide))
    · first | refine lv_aload hx hb dC_redoUntrusted_23 (lv_at hl 4 rfl) ?_ | refine lv_aloadN hx hb dC_redoUntrusted_23 (lv_at hl 4 rfl) ?_
      refine lv_iload hx hb dC_redoUntrusted_25 (lv_at hl 6 rfl) ?_
      by_cases ha : a < nR (zRdF x j i a).1
      · refine aC_R hC hH ha hb2 dC_redoUntrusted_27 ?_
        first | refine lv_astore hx hb dC_redoUntrusted_28 hl (by decide) rfl (fun ls hl => ?_) | refine lv_astoreN hx hb dC_redoUntrusted_28 hl (by decide) rfl (fun ls hl => ?_)
        have hl : lv_has ls 8 [(7, _), (0, _), (1, _), (2, _), (3, _), (4, _), (5, _), (6, _)] := hl
        first | refine lv_aload hx hb dC_redoUntrusted_30 (lv_at hl 0 rfl) ?_ | refine lv_aloadN hx hb dC_redoUntrusted_30 (lv_at hl 0 rfl) ?_
        first | refine lv_ifnull hx hb dC_redoUntrusted_32 ?_ | refine lv_ifnullN (tgt := 103) hx hb dC_redoUntrusted_32 (by decide) ?_
        first | refine lv_aload hx hb dC_redoUntrusted_35 (lv_at hl 0 rfl) ?_ | refine lv_aloadN hx hb dC_redoUntrusted_35 (lv_at hl 0 rfl) ?_
        refine gC_R_state hC hH (by assumption) dC_redoUntrusted_37 ?_
        refine lv_iconst (v := 2) hx hb dC_redoUntrusted_40 (by decide) ?_
        refine lv_icmp_ne  (tgt := 103) hx hb dC_redoUntrusted_41 (by decide) (fun h1 => ?_) (fun h1 => ?_)
        · refine lv_iinc hx hb dC_redoUntrusted_103 hl (k := 7) rfl rfl (by decide) rfl (fun ls hl => ?_)
          have hl : lv_has ls 8 [(6, _), (7, _), (0, _), (1, _), (2, _), (3, _), (4, _), (5, _)] := hl
          refine lv_goto (tgt := 16) hx hb dC_redoUntrusted_106 (by decide) ?_
          have hs : zRdF x j i (a + 1) = zRdF x j i a := if_neg (fun q => h1 q.2.1)
          exact ih (a + 1) _ _ ls H locs (by omega) (by rw [hb2]; exact nI_1 a) (by rw [hs]; exact hw) (by rw [hs]; exact hH) (lv_sub hl [2, 3, 4, 5, 6, 7, 0] rfl)
        · first | refine lv_aload hx hb dC_redoUntrusted_44 (lv_at hl 0 rfl) ?_ | refine lv_aloadN hx hb dC_redoUntrusted_44 (lv_at hl 0 rfl) ?_
          refine gC_R_worker hC hH (by assumption) dC_redoUntrusted_46 ?_
          first | refine lv_aload_n hx hb dC_redoUntrusted_49 rfl (lv_at hl 3 rfl) ?_ | refine lv_aload_nN hx hb dC_redoUntrusted_49 rfl (lv_at hl 3 rfl) ?_
          refine lv_acmp_ne (rx := (rWk (gR (zRdF x j i a).1 a)).map (aWo d)) (ry := some (aWo d i)) (tgt := 103) hx hb dC_redoUntrusted_50 (by decide) (fun h2 => ?_) (fun h2 => ?_)
          · refine lv_iinc hx hb dC_redoUntrusted_103 hl (k := 7) rfl rfl (by decide) rfl (fun ls hl => ?_)
            have hl : lv_has ls 8 [(6, _), (7, _), (0, _), (1, _), (2, _), (3, _), (4, _), (5, _)] := hl
            refine lv_goto (tgt := 16) hx hb dC_redoUntrusted_106 (by decide) ?_
            have hs : zRdF x j i (a + 1) = zRdF x j i a := if_neg (fun q => h2 (by rw [q.2.2.1]; rfl))
            exact ih (a + 1) _ _ ls H locs (by omega) (by rw [hb2]; exact nI_1 a) (by rw [hs]; exact hw) (by rw [hs]; exact hH) (lv_sub hl [2, 3, 4, 5, 6, 7, 0] rfl)
          · have h3 : rWk (gR (zRdF x j i a).1 a) = some i := by
              rcases hq : rWk (gR (zRdF x j i a).1 a) with _ | i2
              · rw [hq] at h2; cases h2
              · rw [hq] at h2
                have hi3 := ((cG.ok hH).2.2 a ha).2 i2 hq
                rw [cG.injW hH hi3 hi2 (Option.some.inj h2)]
            first | refine lv_aload hx hb dC_redoUntrusted_53 (lv_at hl 0 rfl) ?_ | refine lv_aloadN hx hb dC_redoUntrusted_53 (lv_at hl 0 rfl) ?_
            first | refine lv_aload_n hx hb dC_redoUntrusted_55 rfl (lv_at hl 2 rfl) ?_ | refine lv_aload_nN hx hb dC_redoUntrusted_55 rfl (lv_at hl 2 rfl) ?_
            refine lv_acmp_eq (rx := some (aRq d a)) (ry := some (aRq d j)) (tgt := 71) hx hb dC_redoUntrusted_56 (by decide) (fun h4 => ?_) (fun h4 => ?_)
            · have h5 : a = j := cG.injR hH ha hj2 (Option.some.inj h4)
              have hs : zRdF x j i (a + 1) = _ := if_pos ⟨ha, h1, h3, Or.inl h5⟩
              first | refine lv_aload hx hb dC_redoUntrusted_71 (lv_at hl 0 rfl) ?_ | refine lv_aloadN hx hb dC_redoUntrusted_71 (lv_at hl 0 rfl) ?_
              first | refine lv_aload_n hx hb dC_redoUntrusted_73 rfl (lv_at hl 3 rfl) ?_ | refine lv_aload_nN hx hb dC_redoUntrusted_73 rfl (lv_at hl 3 rfl) ?_
              refine gC_W_edition hC hH (by assumption) dC_redoUntrusted_74 ?_
              first | refine lv_aload hx hb dC_redoUntrusted_77 (lv_at hl 0 rfl) ?_ | refine lv_aloadN hx hb dC_redoUntrusted_77 (lv_at hl 0 rfl) ?_
              refine gC_R_input hC hH (by assumption) dC_redoUntrusted_79 ?_
              refine gcTl hC.fix hl.1 (c_freshRun _ _) kC_141 ⟨Nat.le_of_ble_eq_true rfl, Nat.le_of_ble_eq_true rfl⟩ dC_redoUntrusted_82 ⟨Nat.le_of_ble_eq_true rfl, Nat.le_of_ble_eq_true rfl⟩ rfl (Nat.le_of_ble_eq_true rfl) (fun r hr1 => ?_)
              subst hr1
              refine pC_R_result hC hH (by assumption) dC_redoUntrusted_85 (fun H locs hH => ?_)
              first | refine lv_aload hx hb dC_redoUntrusted_88 (lv_at hl 0 rfl) ?_ | refine lv_aloadN hx hb dC_redoUntrusted_88 (lv_at hl 0 rfl) ?_
              refine lv_null hx hb dC_redoUntrusted_90 ?_
              first | refine pC_R_workerN hC hH (by assumption) dC_redoUntrusted_91 (fun H locs hH => ?_) | refine pC_R_workerR hC hH (by assumption) (by assumption) dC_redoUntrusted_91 (fun H locs hH => ?_)
              first | refine lv_aload hx hb dC_redoUntrusted_94 (lv_at hl 0 rfl) ?_ | refine lv_aloadN hx hb dC_redoUntrusted_94 (lv_at hl 0 rfl) ?_
              refine lv_iconst (v := 1) hx hb dC_redoUntrusted_96 (by decide) ?_
              refine pC_R_redone1 hC hH (by assumption) dC_redoUntrusted_97 (fun H locs hH => ?_)
              refine lv_iinc hx hb dC_redoUntrusted_100 hl (k := 4) rfl rfl (by decide) rfl (fun ls hl => ?_)
              have hl : lv_has ls 8 [(3, _), (7, _), (0, _), (1, _), (2, _), (4, _), (5, _), (6, _)] := hl
              refine lv_iinc hx hb dC_redoUntrusted_103 hl (k := 7) rfl rfl (by decide) rfl (fun ls hl => ?_)
              have hl : lv_has ls 8 [(6, _), (3, _), (7, _), (0, _), (1, _), (2, _), (4, _), (5, _)] := hl
              refine lv_goto (tgt := 16) hx hb dC_redoUntrusted_106 (by decide) ?_
              simp only [sR_sR, gR_self] at hH
              exact ih (a + 1) _ _ ls H locs (by omega) (by rw [hb2]; exact nI_1 a) (by rw [hs, hw]; rfl) (by rw [hs]; exact hH) (lv_sub hl [3, 4, 5, 1, 6, 7, 0] rfl)
            · have h5 : ¬ a = j := fun q => h4 (by rw [q])
              first | refine lv_aload hx hb dC_redoUntrusted_59 (lv_at hl 0 rfl) ?_ | refine lv_aloadN hx hb dC_redoUntrusted_59 (lv_at hl 0 rfl) ?_
              refine gC_R_place hC hH (by assumption) dC_redoUntrusted_61 ?_
              first | refine lv_aload_n hx hb dC_redoUntrusted_64 rfl (lv_at hl 3 rfl) ?_ | refine lv_aload_nN hx hb dC_redoUntrusted_64 rfl (lv_at hl 3 rfl) ?_
              refine gC_W_trusted hC hH (by assumption) dC_redoUntrusted_65 ?_
              refine lv_icmp_le  (tgt := 103) hx hb dC_redoUntrusted_68 (by decide) (fun h6 => ?_) (fun h6 => ?_)
              · refine lv_iinc hx hb dC_redoUntrusted_103 hl (k := 7) rfl rfl (by decide) rfl (fun ls hl => ?_)
                have hl : lv_has ls 8 [(6, _), (7, _), (0, _), (1, _), (2, _), (3, _), (4, _), (5, _)] := hl
                refine lv_goto (tgt := 16) hx hb dC_redoUntrusted_106 (by decide) ?_
                have hs : zRdF x j i (a + 1) = zRdF x j i a := if_neg (fun q => by rcases q.2.2.2 with z | z; exact h5 z; exact z h6)
                exact ih (a + 1) _ _ ls H locs (by omega) (by rw [hb2]; exact nI_1 a) (by rw [hs]; exact hw) (by rw [hs]; exact hH) (lv_sub hl [2, 3, 4, 5, 6, 7, 0] rfl)
              · have hs : zRdF x j i (a + 1) = _ := if_pos ⟨ha, h1, h3, Or.inr h6⟩
                first | refine lv_aload hx hb dC_redoUntrusted_71 (lv_at hl 0 rfl) ?_ | refine lv_aloadN hx hb dC_redoUntrusted_71 (lv_at hl 0 rfl) ?_
                first | refine lv_aload_n hx hb dC_redoUntrusted_73 rfl (lv_at hl 3 rfl) ?_ | refine lv_aload_nN hx hb dC_redoUntrusted_73 rfl (lv_at hl 3 rfl) ?_
                refine gC_W_edition hC hH (by assumption) dC_redoUntrusted_74 ?_
                first | refine lv_aload hx hb dC_redoUntrusted_77 (lv_at hl 0 rfl) ?_ | refine lv_aloadN hx hb dC_redoUntrusted_77 (lv_at hl 0 rfl) ?_
                refine gC_R_input hC hH (by assumption) dC_redoUntrusted_79 ?_
                refine gcTl hC.fix hl.1 (c_freshRun _ _) kC_141 ⟨Nat.le_of_ble_eq_true rfl, Nat.le_of_ble_eq_true rfl⟩ dC_redoUntrusted_82 ⟨Nat.le_of_ble_eq_true rfl, Nat.le_of_ble_eq_true rfl⟩ rfl (Nat.le_of_ble_eq_true rfl) (fun r hr1 => ?_)
                subst hr1
                refine pC_R_result hC hH (by assumption) dC_redoUntrusted_85 (fun H locs hH => ?_)
                first | refine lv_aload hx hb dC_redoUntrusted_88 (lv_at hl 0 rfl) ?_ | refine lv_aloadN hx hb dC_redoUntrusted_88 (lv_at hl 0 rfl) ?_
                refine lv_null hx hb dC_redoUntrusted_90 ?_
                first | refine pC_R_workerN hC hH (by assumption) dC_redoUntrusted_91 (fun H locs hH => ?_) | refine pC_R_workerR hC hH (by assumption) (by assumption) dC_redoUntrusted_91 (fun H locs hH => ?_)
                first | refine lv_aload hx hb dC_redoUntrusted_94 (lv_at hl 0 rfl) ?_ | refine lv_aloadN hx hb dC_redoUntrusted_94 (lv_at hl 0 rfl) ?_
                refine lv_iconst (v := 1) hx hb dC_redoUntrusted_96 (by decide) ?_
                refine pC_R_redone1 hC hH (by assumption) dC_redoUntrusted_97 (fun H locs hH => ?_)
                refine lv_iinc hx hb dC_redoUntrusted_100 hl (k := 4) rfl rfl (by decide) rfl (fun ls hl => ?_)
                have hl : lv_has ls 8 [(3, _), (7, _), (0, _), (1, _), (2, _), (4, _), (5, _), (6, _)] := hl
                refine lv_iinc hx hb dC_redoUntrusted_103 hl (k := 7) rfl rfl (by decide) rfl (fun ls hl => ?_)
                have hl : lv_has ls 8 [(6, _), (3, _), (7, _), (0, _), (1, _), (2, _), (4, _), (5, _)] := hl
                refine lv_goto (tgt := 16) hx hb dC_redoUntrusted_106 (by decide) ?_
                simp only [sR_sR, gR_self] at hH
                exact ih (a + 1) _ _ ls H locs (by omega) (by rw [hb2]; exact nI_1 a) (by rw [hs, hw]; rfl) (by rw [hs]; exact hH) (lv_sub hl [3, 4, 5, 1, 6, 7, 0] rfl)
      · refine aC_RN hC hH ha (by omega) hb2 dC_redoUntrusted_27 ?_
        first | refine lv_astore hx hb dC_redoUntrusted_28 hl (by decide) rfl (fun ls hl => ?_) | refine lv_astoreN hx hb dC_redoUntrusted_28 hl (by decide) rfl (fun ls hl => ?_)
        have hl : lv_has ls 8 [(7, _), (0, _), (1, _), (2, _), (3, _), (4, _), (5, _), (6, _)] := hl
        first | refine lv_aload hx hb dC_redoUntrusted_30 (lv_at hl 0 rfl) ?_ | refine lv_aloadN hx hb dC_redoUntrusted_30 (lv_at hl 0 rfl) ?_
        first | refine lv_ifnull hx hb dC_redoUntrusted_32 ?_ | refine lv_ifnullN (tgt := 103) hx hb dC_redoUntrusted_32 (by decide) ?_
        refine lv_iinc hx hb dC_redoUntrusted_103 hl (k := 7) rfl rfl (by decide) rfl (fun ls hl => ?_)
        have hl : lv_has ls 8 [(6, _), (7, _), (0, _), (1, _), (2, _), (3, _), (4, _), (5, _)] := hl
        refine lv_goto (tgt := 16) hx hb dC_redoUntrusted_106 (by decide) ?_
        have hs : zRdF x j i (a + 1) = zRdF x j i a := if_neg (fun q => ha q.1)
        exact ih (a + 1) _ _ ls H locs (by omega) (by rw [hb2]; exact nI_1 a) (by rw [hs]; exact hw) (by rw [hs]; exact hH) (lv_sub hl [2, 3, 4, 5, 6, 7, 0] rfl)
end C7
end
section
section C8
variable {l : Launch} {D : va_G} {k : ck_F} {d : ck_A} {x : cs_S} {LL : List Nat} {f : Nat → va_E} {sz : Nat}
theorem bI_1 {b : Bool} (h : ¬ bI b = 0) : bI b = 1 := by
  cases b
  · exact absurd rfl h
  · rfl
theorem sw_ne {w k : Int32} {n : Int} (hk : k.toInt = n) (h : ¬ w.toInt = n) : ¬ w = k := fun q => h (by rw [q]; exact hk)
theorem sw_eq {w k : Int32} {n : Int} (hk : k.toInt = n) (h : w.toInt = n) : w = k := Int32.toInt_inj.mp (by rw [h, hk])
theorem sw5 (w : Int32) : (w.toInt = 0 ∧ w = 0) ∨ (w.toInt = 1 ∧ w = 1) ∨ (w.toInt = 2 ∧ w = 2) ∨ (w.toInt = 3 ∧ w = 3) ∨ (w.toInt = 4 ∧ w = 4) ∨ ((w.toInt < 0 ∨ 4 < w.toInt) ∧ ¬ w = 0 ∧ ¬ w = 1 ∧ ¬ w = 2 ∧ ¬ w = 3 ∧ ¬ w = 4) := by
  by_cases h0 : w.toInt = 0
  · exact Or.inl ⟨h0, sw_eq (by decide) h0⟩
  by_cases h1 : w.toInt = 1
  · exact Or.inr (Or.inl ⟨h1, sw_eq (by decide) h1⟩)
  by_cases h2 : w.toInt = 2
  · exact Or.inr (Or.inr (Or.inl ⟨h2, sw_eq (by decide) h2⟩))
  by_cases h3 : w.toInt = 3
  · exact Or.inr (Or.inr (Or.inr (Or.inl ⟨h3, sw_eq (by decide) h3⟩)))
  by_cases h4 : w.toInt = 4
  · exact Or.inr (Or.inr (Or.inr (Or.inr (Or.inl ⟨h4, sw_eq (by decide) h4⟩))))
  exact Or.inr (Or.inr (Or.inr (Or.inr (Or.inr ⟨by omega, sw_ne (by decide) h0, sw_ne (by decide) h1, sw_ne (by decide) h2, sw_ne (by decide) h3, sw_ne (by decide) h4⟩))))
theorem sw7 (w : Int32) : (w.toInt = 0 ∧ w = 0) ∨ (w.toInt = 1 ∧ w = 1) ∨ (w.toInt = 2 ∧ w = 2) ∨ (w.toInt = 3 ∧ w = 3) ∨ (w.toInt = 4 ∧ w = 4) ∨ (w.toInt = 5 ∧ w = 5) ∨ (w.toInt = 6 ∧ w = 6) ∨ ((w.toInt < 0 ∨ 6 < w.toInt) ∧ ¬ w = 0 ∧ ¬ w = 1 ∧ ¬ w = 2 ∧ ¬ w = 3 ∧ ¬ w = 4 ∧ ¬ w = 5 ∧ ¬ w = 6) := by
  by_cases h5 : w.toInt = 5
  · exact Or.inr (Or.inr (Or.inr (Or.inr (Or.inr (Or.inl ⟨h5, sw_eq (by decide) h5⟩)))))
  by_cases h6 : w.toInt = 6
  · exact Or.inr (Or.inr (Or.inr (Or.inr (Or.inr (Or.inr (Or.inl ⟨h6, sw_eq (by decide) h6⟩))))))
  rcases sw5 w with h | h | h | h | h | ⟨h, h0, h1, h2, h3, h4⟩
  · exact Or.inl h
  · exact Or.inr (Or.inl h)
  · exact Or.inr (Or.inr (Or.inl h))
  · exact Or.inr (Or.inr (Or.inr (Or.inl h)))
  · exact Or.inr (Or.inr (Or.inr (Or.inr (Or.inl h))))
  · exact Or.inr (Or.inr (Or.inr (Or.inr (Or.inr (Or.inr (Or.inr ⟨by omega, h0, h1, h2, h3, h4, sw_ne (by decide) h5, sw_ne (by decide) h6⟩))))))
set_option maxHeartbeats 600000 in
set_option maxRecDepth 100000 in
theorem c_about (hI : cJ k (d, x) LL f) (v w : Int32) : Met l yC_about (wz yC_about bC_about 4 (some .int)) (rmL 1 0 0) (gP D (ck_tys k) LL f sz [.ref (kO k), .int v, .int w]) (vp_Si (fun r => r = zAbo x v w)) 0 0 (fun _ => False) := by
  refine gMetR (own := RX3) (u := (d, x)) (by decide) rfl hI (Nat.le_of_ble_eq_true rfl) ?_
  intro p e s m below meth c ls hC hr hlk hH hl
  have hx := hC.1
  have hb := hC.2.1
  have hml := hC.2.2.2.2.2
  have hts := hC.2.2.1
  have hown := hC.2.2.2.1
  have hl : lv_has ls 4 [(0, _), (1, _), (2, _)] := hl
  have hn6 := (cG.ok hH).1.2.2
  first | refine lv_aload_n hx hb dC_about_0 rfl (lv_at hl 0 rfl) ?_ | refine lv_aload_nN hx hb dC_about_0 rfl (lv_at hl 0 rfl) ?_
  refine lv_iload_n hx hb dC_about_1 rfl (lv_at hl 1 rfl) ?_
  refine gcVq hC hl.1 hH (fun LL f sz hI => c_requestAt hI v) cJ.o rfl rfl kC_81 ⟨Nat.le_of_ble_eq_true rfl, Nat.le_of_ble_eq_true rfl⟩ dC_about_2 ⟨Nat.le_of_ble_eq_true rfl, Nat.le_of_ble_eq_true rfl⟩ rfl (Nat.le_of_ble_eq_true rfl) (fun o ho => ?_)
  rcases ho with ⟨j, hj, hv, rfl⟩ | ⟨hv, rfl⟩
  · have hkk : lk (nR x) v = some j := by rw [hv]; exact lk_in hj (by omega)
    first | refine lv_astore_n hx hb dC_about_5 rfl hl (by decide) rfl (fun ls hl => ?_) | refine lv_astore_nN hx hb dC_about_5 rfl hl (by decide) rfl (fun ls hl => ?_)
    have hl : lv_has ls 4 [(3, _), (0, _), (1, _), (2, _)] := hl
    first | refine lv_aload_n hx hb dC_about_6 rfl (lv_at hl 0 rfl) ?_ | refine lv_aload_nN hx hb dC_about_6 rfl (lv_at hl 0 rfl) ?_
    first | refine lv_ifnonnullN hx hb dC_about_7 ?_ | refine lv_ifnonnull (tgt := 12) hx hb dC_about_7 (by decide) ?_
    refine lv_iload_n hx hb dC_about_12 rfl (lv_at hl 3 rfl) ?_
    rcases sw5 w with ⟨hw, rfl⟩ | ⟨hw, rfl⟩ | ⟨hw, rfl⟩ | ⟨hw, rfl⟩ | ⟨hw, rfl⟩ | ⟨hw, h0, h1, h2, h3, h4⟩
    · refine lv_tableIn (tgt := 48) hx hb dC_about_13 (by decide) (by decide) rfl (by decide) ?_
      first | refine lv_aload_n hx hb dC_about_48 rfl (lv_at hl 0 rfl) ?_ | refine lv_aload_nN hx hb dC_about_48 rfl (lv_at hl 0 rfl) ?_
      refine gC_R_state hC hH (by assumption) dC_about_49 ?_
      exact grSi hC hr hlk rfl (by simp only [zAbo, hkk]; rfl) dC_about_52
    · refine lv_tableIn (tgt := 53) hx hb dC_about_13 (by decide) (by decide) rfl (by decide) ?_
      first | refine lv_aload_n hx hb dC_about_53 rfl (lv_at hl 0 rfl) ?_ | refine lv_aload_nN hx hb dC_about_53 rfl (lv_at hl 0 rfl) ?_
      refine gC_R_worker hC hH (by assumption) dC_about_54 ?_
      rcases hq : rWk (gR x j) with _ | i
      · first | refine lv_ifnonnullN hx hb dC_about_57 ?_ | refine lv_ifnonnull (tgt := 64) hx hb dC_about_57 (by decide) ?_
        refine lv_iconst (v := -1) hx hb dC_about_60 (by decide) ?_
        refine lv_goto (tgt := 71) hx hb dC_about_61 (by decide) ?_
        exact grSi hC hr hlk rfl (by simp only [zAbo, hkk, hq]; rfl) dC_about_71
      · have hi := ((cG.ok hH).2.2 j hj).2 i hq
        first | refine lv_ifnonnullN hx hb dC_about_57 ?_ | refine lv_ifnonnull (tgt := 64) hx hb dC_about_57 (by decide) ?_
        first | refine lv_aload_n hx hb dC_about_64 rfl (lv_at hl 0 rfl) ?_ | refine lv_aload_nN hx hb dC_about_64 rfl (lv_at hl 0 rfl) ?_
        refine gC_R_worker hC hH (by assumption) dC_about_65 ?_
        rw [hq]
        refine gC_W_number hC hH (by assumption) dC_about_68 ?_
        exact grSi hC hr hlk rfl (by simp only [zAbo, hkk, hq]; rfl) dC_about_71
    · refine lv_tableIn (tgt := 72) hx hb dC_about_13 (by decide) (by decide) rfl (by decide) ?_
      first | refine lv_aload_n hx hb dC_about_72 rfl (lv_at hl 0 rfl) ?_ | refine lv_aload_nN hx hb dC_about_72 rfl (lv_at hl 0 rfl) ?_
      refine gC_R_begun hC hH (by assumption) dC_about_73 ?_
      exact grSi hC hr hlk rfl (by simp only [zAbo, hkk]; rfl) dC_about_76
    · refine lv_tableIn (tgt := 77) hx hb dC_about_13 (by decide) (by decide) rfl (by decide) ?_
      first | refine lv_aload_n hx hb dC_about_77 rfl (lv_at hl 0 rfl) ?_ | refine lv_aload_nN hx hb dC_about_77 rfl (lv_at hl 0 rfl) ?_
      refine gC_R_unwanted hC hH (by assumption) dC_about_78 ?_
      refine lv_if_eq  (tgt := 88) hx hb dC_about_81 (by decide) (fun h => ?_) (fun h => ?_)
      · refine lv_iconst (v := 0) hx hb dC_about_88 (by decide) ?_
        exact grSi hC hr hlk rfl (by simp only [zAbo, hkk]; exact h.symm) dC_about_89
      · refine lv_iconst (v := 1) hx hb dC_about_84 (by decide) ?_
        refine lv_goto (tgt := 89) hx hb dC_about_85 (by decide) ?_
        exact grSi hC hr hlk rfl (by simp only [zAbo, hkk]; exact (bI_1 h).symm) dC_about_89
    · refine lv_tableIn (tgt := 90) hx hb dC_about_13 (by decide) (by decide) rfl (by decide) ?_
      first | refine lv_aload_n hx hb dC_about_90 rfl (lv_at hl 0 rfl) ?_ | refine lv_aload_nN hx hb dC_about_90 rfl (lv_at hl 0 rfl) ?_
      refine gC_R_redone hC hH (by assumption) dC_about_91 ?_
      refine lv_if_eq  (tgt := 101) hx hb dC_about_94 (by decide) (fun h => ?_) (fun h => ?_)
      · refine lv_iconst (v := 0) hx hb dC_about_101 (by decide) ?_
        exact grSi hC hr hlk rfl (by simp only [zAbo, hkk]; exact h.symm) dC_about_102
      · refine lv_iconst (v := 1) hx hb dC_about_97 (by decide) ?_
        refine lv_goto (tgt := 102) hx hb dC_about_98 (by decide) ?_
        exact grSi hC hr hlk rfl (by simp only [zAbo, hkk]; exact (bI_1 h).symm) dC_about_102
    · refine lv_tableOut (tgt := 103) hx hb dC_about_13 hw (by decide) ?_
      refine lv_iconst (v := -1) hx hb dC_about_103 (by decide) ?_
      exact grSi hC hr hlk rfl (by simp only [zAbo, hkk]; rw [if_neg h0, if_neg h1, if_neg h2, if_neg h3, if_neg h4]) dC_about_104
  · have hkk : lk (nR x) v = none := lk_out hv
    first | refine lv_astore_n hx hb dC_about_5 rfl hl (by decide) rfl (fun ls hl => ?_) | refine lv_astore_nN hx hb dC_about_5 rfl hl (by decide) rfl (fun ls hl => ?_)
    have hl : lv_has ls 4 [(3, _), (0, _), (1, _), (2, _)] := hl
    first | refine lv_aload_n hx hb dC_about_6 rfl (lv_at hl 0 rfl) ?_ | refine lv_aload_nN hx hb dC_about_6 rfl (lv_at hl 0 rfl) ?_
    first | refine lv_ifnonnullN hx hb dC_about_7 ?_ | refine lv_ifnonnull (tgt := 12) hx hb dC_about_7 (by decide) ?_
    refine lv_iconst (v := -1) hx hb dC_about_10 (by decide) ?_
    exact grSi hC hr hlk rfl (by simp only [zAbo, hkk]) dC_about_11
set_option maxHeartbeats 600000 in
set_option maxRecDepth 100000 in
theorem c_result (hI : cJ k (d, x) LL f) (v : Int32) : Met l yC_result (wz yC_result bC_result 3 (some .long)) (rmL 1 0 0) (gP D (ck_tys k) LL f sz [.ref (kO k), .int v]) (vp_Sl (fun r => r = zRes x v)) 0 0 (fun _ => False) := by
  refine gMetR (own := RX3) (u := (d, x)) (by decide) rfl hI (Nat.le_of_ble_eq_true rfl) ?_
  intro p e s m below meth c ls hC hr hlk hH hl
  have hx := hC.1
  have hb := hC.2.1
  have hml := hC.2.2.2.2.2
  have hts := hC.2.2.1
  have hown := hC.2.2.2.1
  have hl : lv_has ls 3 [(0, _), (1, _)] := hl
  have hn6 := (cG.ok hH).1.2.2
  first | refine lv_aload_n hx hb dC_result_0 rfl (lv_at hl 0 rfl) ?_ | refine lv_aload_nN hx hb dC_result_0 rfl (lv_at hl 0 rfl) ?_
  refine lv_iload_n hx hb dC_result_1 rfl (lv_at hl 1 rfl) ?_
  refine gcVq hC hl.1 hH (fun LL f sz hI => c_requestAt hI v) cJ.o rfl rfl kC_81 ⟨Nat.le_of_ble_eq_true rfl, Nat.le_of_ble_eq_true rfl⟩ dC_result_2 ⟨Nat.le_of_ble_eq_true rfl, Nat.le_of_ble_eq_true rfl⟩ rfl (Nat.le_of_ble_eq_true rfl) (fun o ho => ?_)
  rcases ho with ⟨j, hj, hv, rfl⟩ | ⟨hv, rfl⟩
  · have hkk : lk (nR x) v = some j := by rw [hv]; exact lk_in hj (by omega)
    first | refine lv_astore_n hx hb dC_result_5 rfl hl (by decide) rfl (fun ls hl => ?_) | refine lv_astore_nN hx hb dC_result_5 rfl hl (by decide) rfl (fun ls hl => ?_)
    have hl : lv_has ls 3 [(2, _), (0, _), (1, _)] := hl
    first | refine lv_aload_n hx hb dC_result_6 rfl (lv_at hl 0 rfl) ?_ | refine lv_aload_nN hx hb dC_result_6 rfl (lv_at hl 0 rfl) ?_
    first | refine lv_ifnull hx hb dC_result_7 ?_ | refine lv_ifnullN (tgt := 18) hx hb dC_result_7 (by decide) ?_
    first | refine lv_aload_n hx hb dC_result_10 rfl (lv_at hl 0 rfl) ?_ | refine lv_aload_nN hx hb dC_result_10 rfl (lv_at hl 0 rfl) ?_
    refine gC_R_state hC hH (by assumption) dC_result_11 ?_
    refine lv_iconst (v := 2) hx hb dC_result_14 (by decide) ?_
    refine lv_icmp_eq  (tgt := 20) hx hb dC_result_15 (by decide) (fun h => ?_) (fun h => ?_)
    · first | refine lv_aload_n hx hb dC_result_20 rfl (lv_at hl 0 rfl) ?_ | refine lv_aload_nN hx hb dC_result_20 rfl (lv_at hl 0 rfl) ?_
      refine gC_R_result hC hH (by assumption) dC_result_21 ?_
      exact grSl hC hr hlk (by simp only [zRes, hkk]; rw [if_pos h]) dC_result_24
    · refine lv_lconst (v := 0) hx hb dC_result_18 (by decide) ?_
      exact grSl hC hr hlk (by simp only [zRes, hkk]; rw [if_neg h]) dC_result_19
  · have hkk : lk (nR x) v = none := lk_out hv
    first | refine lv_astore_n hx hb dC_result_5 rfl hl (by decide) rfl (fun ls hl => ?_) | refine lv_astore_nN hx hb dC_result_5 rfl hl (by decide) rfl (fun ls hl => ?_)
    have hl : lv_has ls 3 [(2, _), (0, _), (1, _)] := hl
    first | refine lv_aload_n hx hb dC_result_6 rfl (lv_at hl 0 rfl) ?_ | refine lv_aload_nN hx hb dC_result_6 rfl (lv_at hl 0 rfl) ?_
    first | refine lv_ifnull hx hb dC_result_7 ?_ | refine lv_ifnullN (tgt := 18) hx hb dC_result_7 (by decide) ?_
    refine lv_lconst (v := 0) hx hb dC_result_18 (by decide) ?_
    exact grSl hC hr hlk (by simp only [zRes, hkk]) dC_result_19
set_option maxHeartbeats 600000 in
set_option maxRecDepth 100000 in
theorem c_worker (hI : cJ k (d, x) LL f) (v w : Int32) : Met l yC_worker (wz yC_worker bC_worker 4 (some .int)) (rmL 2 0 0) (gP D (ck_tys k) LL f sz [.ref (kO k), .int v, .int w]) (vp_Si (fun r => r = zWor x v w)) 0 0 (fun _ => False) := by
  refine gMetR (own := RX3) (u := (d, x)) (by decide) rfl hI (Nat.le_of_ble_eq_true rfl) ?_
  intro p e s m below meth c ls hC hr hlk hH hl
  have hx := hC.1
  have hb := hC.2.1
  have hml := hC.2.2.2.2.2
  have hts := hC.2.2.1
  have hown := hC.2.2.2.1
  have hl : lv_has ls 4 [(0, _), (1, _), (2, _)] := hl
  have hn6 := (cG.ok hH).1.2.1
  first | refine lv_aload_n hx hb dC_worker_0 rfl (lv_at hl 0 rfl) ?_ | refine lv_aload_nN hx hb dC_worker_0 rfl (lv_at hl 0 rfl) ?_
  refine lv_iload_n hx hb dC_worker_1 rfl (lv_at hl 1 rfl) ?_
  refine gcVq hC hl.1 hH (fun LL f sz hI => c_workerAt hI v) cJ.o rfl rfl kC_100 ⟨Nat.le_of_ble_eq_true rfl, Nat.le_of_ble_eq_true rfl⟩ dC_worker_2 ⟨Nat.le_of_ble_eq_true rfl, Nat.le_of_ble_eq_true rfl⟩ rfl (Nat.le_of_ble_eq_true rfl) (fun o ho => ?_)
  rcases ho with ⟨i, hi, hv, rfl⟩ | ⟨hv, rfl⟩
  · have hkk : lk (nW x) v = some i := by rw [hv]; exact lk_in hi (by omega)
    have hti := ((cG.ok hH).2.1 i hi).1
    first | refine lv_astore_n hx hb dC_worker_5 rfl hl (by decide) rfl (fun ls hl => ?_) | refine lv_astore_nN hx hb dC_worker_5 rfl hl (by decide) rfl (fun ls hl => ?_)
    have hl : lv_has ls 4 [(3, _), (0, _), (1, _), (2, _)] := hl
    first | refine lv_aload_n hx hb dC_worker_6 rfl (lv_at hl 0 rfl) ?_ | refine lv_aload_nN hx hb dC_worker_6 rfl (lv_at hl 0 rfl) ?_
    first | refine lv_ifnonnullN hx hb dC_worker_7 ?_ | refine lv_ifnonnull (tgt := 12) hx hb dC_worker_7 (by decide) ?_
    refine lv_iload_n hx hb dC_worker_12 rfl (lv_at hl 3 rfl) ?_
    rcases sw7 w with ⟨hw, rfl⟩ | ⟨hw, rfl⟩ | ⟨hw, rfl⟩ | ⟨hw, rfl⟩ | ⟨hw, rfl⟩ | ⟨hw, rfl⟩ | ⟨hw, rfl⟩ | ⟨hw, h0, h1, h2, h3, h4, h5, h6⟩
    · refine lv_tableIn (tgt := 56) hx hb dC_worker_13 (by decide) (by decide) rfl (by decide) ?_
      first | refine lv_aload_n hx hb dC_worker_56 rfl (lv_at hl 0 rfl) ?_ | refine lv_aload_nN hx hb dC_worker_56 rfl (lv_at hl 0 rfl) ?_
      refine gC_W_tool hC hH (by assumption) dC_worker_57 ?_
      refine gC_T_number hC hH (by assumption) dC_worker_60 ?_
      exact grSi hC hr hlk rfl (by simp only [zWor, hkk]; rfl) dC_worker_63
    · refine lv_tableIn (tgt := 64) hx hb dC_worker_13 (by decide) (by decide) rfl (by decide) ?_
      first | refine lv_aload_n hx hb dC_worker_64 rfl (lv_at hl 0 rfl) ?_ | refine lv_aload_nN hx hb dC_worker_64 rfl (lv_at hl 0 rfl) ?_
      refine gcSi hC hl.1 hH (fun LL f sz hI => c_stateOf hI hi) kC_146 ⟨Nat.le_of_ble_eq_true rfl, Nat.le_of_ble_eq_true rfl⟩ dC_worker_65 ⟨Nat.le_of_ble_eq_true rfl, Nat.le_of_ble_eq_true rfl⟩ rfl (Nat.le_of_ble_eq_true rfl) (fun r hr1 => ?_)
      exact grSi hC hr hlk rfl (by simp only [zWor, hkk]; exact hr1) dC_worker_68
    · refine lv_tableIn (tgt := 69) hx hb dC_worker_13 (by decide) (by decide) rfl (by decide) ?_
      first | refine lv_aload_n hx hb dC_worker_69 rfl (lv_at hl 0 rfl) ?_ | refine lv_aload_nN hx hb dC_worker_69 rfl (lv_at hl 0 rfl) ?_
      refine gC_W_finished hC hH (by assumption) dC_worker_70 ?_
      exact grSi hC hr hlk rfl (by simp only [zWor, hkk]; rfl) dC_worker_73
    · refine lv_tableIn (tgt := 74) hx hb dC_worker_13 (by decide) (by decide) rfl (by decide) ?_
      first | refine lv_aload_n hx hb dC_worker_74 rfl (lv_at hl 0 rfl) ?_ | refine lv_aload_nN hx hb dC_worker_74 rfl (lv_at hl 0 rfl) ?_
      refine gC_W_memory hC hH (by assumption) dC_worker_75 ?_
      exact grSi hC hr hlk rfl (by simp only [zWor, hkk]; rfl) dC_worker_78
    · refine lv_tableIn (tgt := 79) hx hb dC_worker_13 (by decide) (by decide) rfl (by decide) ?_
      first | refine lv_aload_n hx hb dC_worker_79 rfl (lv_at hl 0 rfl) ?_ | refine lv_aload_nN hx hb dC_worker_79 rfl (lv_at hl 0 rfl) ?_
      refine gC_W_request hC hH (by assumption) dC_worker_80 ?_
      rcases hq : wRq (gW x i) with _ | j
      · first | refine lv_ifnonnullN hx hb dC_worker_83 ?_ | refine lv_ifnonnull (tgt := 90) hx hb dC_worker_83 (by decide) ?_
        refine lv_iconst (v := -1) hx hb dC_worker_86 (by decide) ?_
        refine lv_goto (tgt := 97) hx hb dC_worker_87 (by decide) ?_
        exact grSi hC hr hlk rfl (by simp only [zWor, hkk, hq]; rfl) dC_worker_97
      · have hj := ((cG.ok hH).2.1 i hi).2 j hq
        first | refine lv_ifnonnullN hx hb dC_worker_83 ?_ | refine lv_ifnonnull (tgt := 90) hx hb dC_worker_83 (by decide) ?_
        first | refine lv_aload_n hx hb dC_worker_90 rfl (lv_at hl 0 rfl) ?_ | refine lv_aload_nN hx hb dC_worker_90 rfl (lv_at hl 0 rfl) ?_
        refine gC_W_request hC hH (by assumption) dC_worker_91 ?_
        rw [hq]
        refine gC_R_number hC hH (by assumption) dC_worker_94 ?_
        exact grSi hC hr hlk rfl (by simp only [zWor, hkk, hq]; rfl) dC_worker_97
    · refine lv_tableIn (tgt := 98) hx hb dC_worker_13 (by decide) (by decide) rfl (by decide) ?_
      first | refine lv_aload_n hx hb dC_worker_98 rfl (lv_at hl 0 rfl) ?_ | refine lv_aload_nN hx hb dC_worker_98 rfl (lv_at hl 0 rfl) ?_
      refine gC_W_endedBy hC hH (by assumption) dC_worker_99 ?_
      exact grSi hC hr hlk rfl (by simp only [zWor, hkk]; rfl) dC_worker_102
    · refine lv_tableIn (tgt := 103) hx hb dC_worker_13 (by decide) (by decide) rfl (by decide) ?_
      first | refine lv_aload_n hx hb dC_worker_103 rfl (lv_at hl 0 rfl) ?_ | refine lv_aload_nN hx hb dC_worker_103 rfl (lv_at hl 0 rfl) ?_
      refine gC_W_trusted hC hH (by assumption) dC_worker_104 ?_
      exact grSi hC hr hlk rfl (by simp only [zWor, hkk]; rfl) dC_worker_107
    · refine lv_tableOut (tgt := 108) hx hb dC_worker_13 hw (by decide) ?_
      refine lv_iconst (v := -1) hx hb dC_worker_108 (by decide) ?_
      exact grSi hC hr hlk rfl (by simp only [zWor, hkk]; rw [if_neg h0, if_neg h1, if_neg h2, if_neg h3, if_neg h4, if_neg h5, if_neg h6]) dC_worker_109
  · have hkk : lk (nW x) v = none := lk_out hv
    first | refine lv_astore_n hx hb dC_worker_5 rfl hl (by decide) rfl (fun ls hl => ?_) | refine lv_astore_nN hx hb dC_worker_5 rfl hl (by decide) rfl (fun ls hl => ?_)
    have hl : lv_has ls 4 [(3, _), (0, _), (1, _), (2, _)] := hl
    first | refine lv_aload_n hx hb dC_worker_6 rfl (lv_at hl 0 rfl) ?_ | refine lv_aload_nN hx hb dC_worker_6 rfl (lv_at hl 0 rfl) ?_
    first | refine lv_ifnonnullN hx hb dC_worker_7 ?_ | refine lv_ifnonnull (tgt := 12) hx hb dC_worker_7 (by decide) ?_
    refine lv_iconst (v := -1) hx hb dC_worker_10 (by decide) ?_
    exact grSi hC hr hlk rfl (by simp only [zWor, hkk]) dC_worker_11
set_option maxHeartbeats 600000 in
set_option maxRecDepth 100000 in
theorem c_bars (hI : cJ k (d, x) LL f) (v : Int32) : Met l yC_bars (wz yC_bars bC_bars 3 (some .int)) (rmL 1 0 0) (gP D (ck_tys k) LL f sz [.ref (kO k), .int v]) (vp_Si (fun r => r = zBars x v)) 0 0 (fun _ => False) := by
  refine gMetR (own := RX3) (u := (d, x)) (by decide) rfl hI (Nat.le_of_ble_eq_true rfl) ?_
  intro p e s m below meth c ls hC hr hlk hH hl
  have hx := hC.1
  have hb := hC.2.1
  have hml := hC.2.2.2.2.2
  have hts := hC.2.2.1
  have hown := hC.2.2.2.1
  have hl : lv_has ls 3 [(0, _), (1, _)] := hl
  have hn6 := (cG.ok hH).1.1
  first | refine lv_aload_n hx hb dC_bars_0 rfl (lv_at hl 0 rfl) ?_ | refine lv_aload_nN hx hb dC_bars_0 rfl (lv_at hl 0 rfl) ?_
  refine lv_iload_n hx hb dC_bars_1 rfl (lv_at hl 1 rfl) ?_
  refine gcVq hC hl.1 hH (fun LL f sz hI => c_toolAt hI v) cJ.o rfl rfl kC_51 ⟨Nat.le_of_ble_eq_true rfl, Nat.le_of_ble_eq_true rfl⟩ dC_bars_2 ⟨Nat.le_of_ble_eq_true rfl, Nat.le_of_ble_eq_true rfl⟩ rfl (Nat.le_of_ble_eq_true rfl) (fun o ho => ?_)
  rcases ho with ⟨t, ht, hv, rfl⟩ | ⟨hv, rfl⟩
  · have hkk : lk (nT x) v = some t := by rw [hv]; exact lk_in ht (by omega)
    first | refine lv_astore_n hx hb dC_bars_5 rfl hl (by decide) rfl (fun ls hl => ?_) | refine lv_astore_nN hx hb dC_bars_5 rfl hl (by decide) rfl (fun ls hl => ?_)
    have hl : lv_has ls 3 [(2, _), (0, _), (1, _)] := hl
    first | refine lv_aload_n hx hb dC_bars_6 rfl (lv_at hl 0 rfl) ?_ | refine lv_aload_nN hx hb dC_bars_6 rfl (lv_at hl 0 rfl) ?_
    first | refine lv_ifnonnullN hx hb dC_bars_7 ?_ | refine lv_ifnonnull (tgt := 14) hx hb dC_bars_7 (by decide) ?_
    first | refine lv_aload_n hx hb dC_bars_14 rfl (lv_at hl 0 rfl) ?_ | refine lv_aload_nN hx hb dC_bars_14 rfl (lv_at hl 0 rfl) ?_
    refine gC_T_bars hC hH (by assumption) dC_bars_15 ?_
    exact grSi hC hr hlk rfl (by simp only [zBars, hkk]) dC_bars_18
  · have hkk : lk (nT x) v = none := lk_out hv
    first | refine lv_astore_n hx hb dC_bars_5 rfl hl (by decide) rfl (fun ls hl => ?_) | refine lv_astore_nN hx hb dC_bars_5 rfl hl (by decide) rfl (fun ls hl => ?_)
    have hl : lv_has ls 3 [(2, _), (0, _), (1, _)] := hl
    first | refine lv_aload_n hx hb dC_bars_6 rfl (lv_at hl 0 rfl) ?_ | refine lv_aload_nN hx hb dC_bars_6 rfl (lv_at hl 0 rfl) ?_
    first | refine lv_ifnonnullN hx hb dC_bars_7 ?_ | refine lv_ifnonnull (tgt := 14) hx hb dC_bars_7 (by decide) ?_
    refine lv_iconst (v := -1) hx hb dC_bars_10 (by decide) ?_
    refine lv_goto (tgt := 18) hx hb dC_bars_11 (by decide) ?_
    exact grSi hC hr hlk rfl (by simp only [zBars, hkk]) dC_bars_18
set_option maxHeartbeats 600000 in
set_option maxRecDepth 100000 in
theorem c_oneShot (hI : cJ k (d, x) LL f) (a b : Int64) : Met l yC_oneShot (wz yC_oneShot bC_oneShot 5 (some .long)) (rmL 1 0 0) (gP D (ck_tys k) LL f sz [.ref (kO k), .long a, .long b]) (vp_Sl (fun r => r = os a b)) 0 0 (fun _ => False) := by
  refine gMetR (own := RX3) (u := (d, x)) (by decide) rfl hI (Nat.le_of_ble_eq_true rfl) ?_
  intro p e s m below meth c ls hC hr hlk hH hl
  have hx := hC.1
  have hb := hC.2.1
  have hml := hC.2.2.2.2.2
  have hts := hC.2.2.1
  have hown := hC.2.2.2.1
  have hl : lv_has ls 5 [(0, _), (1, _), (3, _)] := hl
  refine lv_lload_n hx hb dC_oneShot_0 rfl (lv_at hl 1 rfl) ?_
  refine lv_lload_n hx hb dC_oneShot_1 rfl (lv_at hl 2 rfl) ?_
  refine gcTl hC.fix hl.1 (c_freshRun _ _) kC_141 ⟨Nat.le_of_ble_eq_true rfl, Nat.le_of_ble_eq_true rfl⟩ dC_oneShot_2 ⟨Nat.le_of_ble_eq_true rfl, Nat.le_of_ble_eq_true rfl⟩ rfl (Nat.le_of_ble_eq_true rfl) (fun r hr1 => ?_)
  exact grSl hC hr hlk hr1 dC_oneShot_5
end C8
end
section
section C9
variable {l : Launch} {D : va_G} {k : ck_F} {d : ck_A} {x : cs_S} {LL : List Nat} {f : Nat → va_E} {sz : Nat}
set_option maxHeartbeats 600000 in
set_option maxRecDepth 100000 in
theorem c_sample (hI : cJ k (d, x) LL f) (v : Int32) : Met l yC_sample (wz yC_sample bC_sample 5 (some .int)) (rmL 3 0 0) (gP D (ck_tys k) LL f sz [.ref (kO k), .int v]) (va_Qi (fun (r : Int32) (u : ck_A × cs_S) => (u.2, r) = zSam x v) (gB D (ck_tys k) (cJ k) (va_A (va_pl LL f) sz)) (va_A (va_pl LL f) sz)) 0 0 (va_A (va_pl LL f) sz) := by
  refine gMet (own := RX3) (u := (d, x)) (Qc := fun A => va_Qi (fun (r : Int32) (u : ck_A × cs_S) => (u.2, r) = zSam x v) (gB D (ck_tys k) (cJ k) A) A) (by decide) rfl hI (Nat.le_of_ble_eq_true rfl) ?_
  intro p e s m below meth c ls A hC hr hlk hnm hA hH hl
  have hx := hC.1
  have hb := hC.2.1
  have hml := hC.2.2.2.2.2
  have hts := hC.2.2.1
  have hown := hC.2.2.2.1
  have hl : lv_has ls 5 [(0, _), (1, _)] := hl
  have hn6 := (cG.ok hH).1.2.2
  first | refine lv_aload_n hx hb dC_sample_0 rfl (lv_at hl 0 rfl) ?_ | refine lv_aload_nN hx hb dC_sample_0 rfl (lv_at hl 0 rfl) ?_
  refine lv_iload_n hx hb dC_sample_1 rfl (lv_at hl 1 rfl) ?_
  refine gcVq hC hl.1 hH (fun LL f sz hI => c_requestAt hI v) cJ.o rfl rfl kC_81 ⟨Nat.le_of_ble_eq_true rfl, Nat.le_of_ble_eq_true rfl⟩ dC_sample_2 ⟨Nat.le_of_ble_eq_true rfl, Nat.le_of_ble_eq_true rfl⟩ rfl (Nat.le_of_ble_eq_true rfl) (fun o ho => ?_)
  rcases ho with ⟨j, hj, hv, rfl⟩ | ⟨hv, rfl⟩
  · have hkk : lk (nR x) v = some j := by rw [hv]; exact lk_in hj (by omega)
    first | refine lv_astore_n hx hb dC_sample_5 rfl hl (by decide) rfl (fun ls hl => ?_) | refine lv_astore_nN hx hb dC_sample_5 rfl hl (by decide) rfl (fun ls hl => ?_)
    have hl : lv_has ls 5 [(2, _), (0, _), (1, _)] := hl
    first | refine lv_aload_n hx hb dC_sample_6 rfl (lv_at hl 0 rfl) ?_ | refine lv_aload_nN hx hb dC_sample_6 rfl (lv_at hl 0 rfl) ?_
    first | refine lv_ifnull hx hb dC_sample_7 ?_ | refine lv_ifnullN (tgt := 25) hx hb dC_sample_7 (by decide) ?_
    first | refine lv_aload_n hx hb dC_sample_10 rfl (lv_at hl 0 rfl) ?_ | refine lv_aload_nN hx hb dC_sample_10 rfl (lv_at hl 0 rfl) ?_
    refine gC_R_state hC hH (by assumption) dC_sample_11 ?_
    refine lv_iconst (v := 2) hx hb dC_sample_14 (by decide) ?_
    refine lv_icmp_ne  (tgt := 25) hx hb dC_sample_15 (by decide) (fun h => ?_) (fun h => ?_)
    · refine lv_iconst (v := -1) hx hb dC_sample_25 (by decide) ?_
      exact grWi hC hr hlk rfl hH (by simp only [zSam, hkk]; rw [if_neg h]) dC_sample_26
    · first | refine lv_aload_n hx hb dC_sample_18 rfl (lv_at hl 0 rfl) ?_ | refine lv_aload_nN hx hb dC_sample_18 rfl (lv_at hl 0 rfl) ?_
      refine gC_R_worker hC hH (by assumption) dC_sample_19 ?_
      rcases hq : rWk (gR x j) with _ | i
      · first | refine lv_ifnonnullN hx hb dC_sample_22 ?_ | refine lv_ifnonnull (tgt := 27) hx hb dC_sample_22 (by decide) ?_
        refine lv_iconst (v := -1) hx hb dC_sample_25 (by decide) ?_
        exact grWi hC hr hlk rfl hH (by simp only [zSam, hkk, hq]; rw [if_pos h]) dC_sample_26
      · have hi := ((cG.ok hH).2.2 j hj).2 i hq
        first | refine lv_ifnonnullN hx hb dC_sample_22 ?_ | refine lv_ifnonnull (tgt := 27) hx hb dC_sample_22 (by decide) ?_
        first | refine lv_aload_n hx hb dC_sample_27 rfl (lv_at hl 0 rfl) ?_ | refine lv_aload_nN hx hb dC_sample_27 rfl (lv_at hl 0 rfl) ?_
        refine gC_R_worker hC hH (by assumption) dC_sample_28 ?_
        rw [hq]
        first | refine lv_astore_n hx hb dC_sample_31 rfl hl (by decide) rfl (fun ls hl => ?_) | refine lv_astore_nN hx hb dC_sample_31 rfl hl (by decide) rfl (fun ls hl => ?_)
        have hl : lv_has ls 5 [(3, _), (2, _), (0, _), (1, _)] := hl
        first | refine lv_aload_n hx hb dC_sample_32 rfl (lv_at hl 1 rfl) ?_ | refine lv_aload_nN hx hb dC_sample_32 rfl (lv_at hl 1 rfl) ?_
        refine gC_R_result hC hH (by assumption) dC_sample_33 ?_
        first | refine lv_aload_n hx hb dC_sample_36 rfl (lv_at hl 0 rfl) ?_ | refine lv_aload_nN hx hb dC_sample_36 rfl (lv_at hl 0 rfl) ?_
        refine gC_W_edition hC hH (by assumption) dC_sample_37 ?_
        first | refine lv_aload_n hx hb dC_sample_40 rfl (lv_at hl 1 rfl) ?_ | refine lv_aload_nN hx hb dC_sample_40 rfl (lv_at hl 1 rfl) ?_
        refine gC_R_input hC hH (by assumption) dC_sample_41 ?_
        refine gcTl hC.fix hl.1 (c_freshRun _ _) kC_141 ⟨Nat.le_of_ble_eq_true rfl, Nat.le_of_ble_eq_true rfl⟩ dC_sample_44 ⟨Nat.le_of_ble_eq_true rfl, Nat.le_of_ble_eq_true rfl⟩ rfl (Nat.le_of_ble_eq_true rfl) (fun r hr1 => ?_)
        subst hr1
        refine W.lcmp hx hb dC_sample_47 ?_
        refine lv_if_ne  (tgt := 68) hx hb dC_sample_48 (by decide) (fun h2 => ?_) (fun h2 => ?_)
        · have h3 : ¬ rRs (gR x j) = os (wEd (gW x i)) (rIn (gR x j)) := fun q => h2 ((lg_cmp_eq _ _).mpr q)
          first | refine lv_aload_n hx hb dC_sample_68 rfl (lv_at hl 2 rfl) ?_ | refine lv_aload_nN hx hb dC_sample_68 rfl (lv_at hl 2 rfl) ?_
          first | refine lv_aload_n hx hb dC_sample_69 rfl (lv_at hl 1 rfl) ?_ | refine lv_aload_nN hx hb dC_sample_69 rfl (lv_at hl 1 rfl) ?_
          first | refine lv_aload_n hx hb dC_sample_70 rfl (lv_at hl 0 rfl) ?_ | refine lv_aload_nN hx hb dC_sample_70 rfl (lv_at hl 0 rfl) ?_
          refine gcWVi hC hl.1 hA hH (fun LL f sz hI => c_redoUntrusted hI hi hj) cJ.o rfl rfl kC_166 ⟨Nat.le_of_ble_eq_true rfl, Nat.le_of_ble_eq_true rfl⟩ dC_sample_71 ⟨Nat.le_of_ble_eq_true rfl, Nat.le_of_ble_eq_true rfl⟩ rfl (Nat.le_of_ble_eq_true rfl) (fun r u H locs hp hH => ?_)
          have hzn := (zRdF_n x j i 100).1
          obtain ⟨hp1, hp2⟩ := hp
          generalize hz : zRdF x j i 100 = z at hp1 hp2 hzn
          subst hp1 hp2
          have hi2 : i < nW z.1 := by rw [hzn]; exact hi
          refine lv_istore hx hb dC_sample_74 hl (by decide) rfl (fun ls hl => ?_)
          have hl : lv_has ls 5 [(4, _), (3, _), (2, _), (0, _), (1, _)] := hl
          first | refine lv_aload_n hx hb dC_sample_76 rfl (lv_at hl 1 rfl) ?_ | refine lv_aload_nN hx hb dC_sample_76 rfl (lv_at hl 1 rfl) ?_
          refine gcSi hC hl.1 hH (fun LL f sz hI => c_isEnded hI hi2) kC_63 ⟨Nat.le_of_ble_eq_true rfl, Nat.le_of_ble_eq_true rfl⟩ dC_sample_77 ⟨Nat.le_of_ble_eq_true rfl, Nat.le_of_ble_eq_true rfl⟩ rfl (Nat.le_of_ble_eq_true rfl) (fun r hr1 => ?_)
          refine lv_if_ne  (tgt := 88) hx hb dC_sample_80 (by decide) (fun h4 => ?_) (fun h4 => ?_)
          · have h5 : ¬ wEn (gW z.1 i) = 0 := fun q => h4 (by rw [hr1]; exact zEnd_0.mpr q)
            have hti := ((cG.ok hH).2.1 i hi2).1
            first | refine lv_aload_n hx hb dC_sample_88 rfl (lv_at hl 1 rfl) ?_ | refine lv_aload_nN hx hb dC_sample_88 rfl (lv_at hl 1 rfl) ?_
            refine gC_W_tool hC hH (by assumption) dC_sample_89 ?_
            refine lv_dup hx hb dC_sample_92 rfl ?_
            refine gC_T_bars hC hH (by assumption) dC_sample_93 ?_
            refine lv_iconst (v := 1) hx hb dC_sample_96 (by decide) ?_
            refine lv_iadd hx hb dC_sample_97 ?_
            refine pC_T_bars hC hH (by assumption) dC_sample_98 (fun H locs hH => ?_)
            refine lv_iload hx hb dC_sample_101 (lv_at hl 0 rfl) ?_
            exact grWi hC hr hlk rfl hH (by simp only [zSam, hkk, hq, zBar]; rw [if_pos h, if_neg h3, hz, if_neg h5]) dC_sample_103
          · have h5 : wEn (gW z.1 i) = 0 := zEnd_0.mp (by rw [← hr1]; exact h4)
            first | refine lv_aload_n hx hb dC_sample_83 rfl (lv_at hl 1 rfl) ?_ | refine lv_aload_nN hx hb dC_sample_83 rfl (lv_at hl 1 rfl) ?_
            refine lv_iconst (v := 5) hx hb dC_sample_84 (by decide) ?_
            refine gcWSv hC hl.1 hA hH (fun LL f sz hI => c_endAndRequeue hI hi2 5) kC_67 ⟨Nat.le_of_ble_eq_true rfl, Nat.le_of_ble_eq_true rfl⟩ dC_sample_85 ⟨Nat.le_of_ble_eq_true rfl, Nat.le_of_ble_eq_true rfl⟩ rfl (Nat.le_of_ble_eq_true rfl) (fun u H locs hp hH => ?_)
            subst hp
            have hi3 : i < nW (zEndRe z.1 i 5) := by rw [(nW_zEndRe _ _ _).1]; exact hi2
            have hti := ((cG.ok hH).2.1 i hi3).1
            first | refine lv_aload_n hx hb dC_sample_88 rfl (lv_at hl 1 rfl) ?_ | refine lv_aload_nN hx hb dC_sample_88 rfl (lv_at hl 1 rfl) ?_
            refine gC_W_tool hC hH (by assumption) dC_sample_89 ?_
            refine lv_dup hx hb dC_sample_92 rfl ?_
            refine gC_T_bars hC hH (by assumption) dC_sample_93 ?_
            refine lv_iconst (v := 1) hx hb dC_sample_96 (by decide) ?_
            refine lv_iadd hx hb dC_sample_97 ?_
            refine pC_T_bars hC hH (by assumption) dC_sample_98 (fun H locs hH => ?_)
            refine lv_iload hx hb dC_sample_101 (lv_at hl 0 rfl) ?_
            exact grWi hC hr hlk rfl hH (by simp only [zSam, hkk, hq, zBar]; rw [if_pos h, if_neg h3, hz, if_pos h5]) dC_sample_103
        · have h3 : rRs (gR x j) = os (wEd (gW x i)) (rIn (gR x j)) := (lg_cmp_eq _ _).mp h2
          first | refine lv_aload_n hx hb dC_sample_51 rfl (lv_at hl 0 rfl) ?_ | refine lv_aload_nN hx hb dC_sample_51 rfl (lv_at hl 0 rfl) ?_
          first | refine lv_aload_n hx hb dC_sample_52 rfl (lv_at hl 0 rfl) ?_ | refine lv_aload_nN hx hb dC_sample_52 rfl (lv_at hl 0 rfl) ?_
          refine gC_W_trusted hC hH (by assumption) dC_sample_53 ?_
          first | refine lv_aload_n hx hb dC_sample_56 rfl (lv_at hl 1 rfl) ?_ | refine lv_aload_nN hx hb dC_sample_56 rfl (lv_at hl 1 rfl) ?_
          refine gC_R_place hC hH (by assumption) dC_sample_57 ?_
          refine va_mmax hx hb (hml.trans hl.1.symm) hown (hts _ wm_C_160) (hts _ ws_J_max) (hts _ wn_J) (hts _ wc_J_max) (Nat.le_of_ble_eq_true rfl) (Nat.le_of_ble_eq_true rfl) (Nat.le_of_ble_eq_true rfl) (Nat.le_of_ble_eq_true rfl) dC_sample_60 ?_
          refine pC_W_trusted hC hH (by assumption) dC_sample_63 (fun H locs hH => ?_)
          refine lv_iconst (v := 0) hx hb dC_sample_66 (by decide) ?_
          exact grWi hC hr hlk rfl hH (by simp only [zSam, hkk, hq]; rw [if_pos h, if_pos h3]) dC_sample_67
  · have hkk : lk (nR x) v = none := lk_out hv
    first | refine lv_astore_n hx hb dC_sample_5 rfl hl (by decide) rfl (fun ls hl => ?_) | refine lv_astore_nN hx hb dC_sample_5 rfl hl (by decide) rfl (fun ls hl => ?_)
    have hl : lv_has ls 5 [(2, _), (0, _), (1, _)] := hl
    first | refine lv_aload_n hx hb dC_sample_6 rfl (lv_at hl 0 rfl) ?_ | refine lv_aload_nN hx hb dC_sample_6 rfl (lv_at hl 0 rfl) ?_
    first | refine lv_ifnull hx hb dC_sample_7 ?_ | refine lv_ifnullN (tgt := 25) hx hb dC_sample_7 (by decide) ?_
    refine lv_iconst (v := -1) hx hb dC_sample_25 (by decide) ?_
    exact grWi hC hr hlk rfl hH (by simp only [zSam, hkk]) dC_sample_26
end C9
end
section
/-! WorkerRows(most, bound, idle) -/
def cs0 (mo bo id : Int32) : cs_S := ((mo, bo, id), 0, (0, 0, 0), (fun _ => (0, 0, 0)), (fun _ => (0, 0, 0, 0, 0, 0, 0, none)), (fun _ => (0, 0, 0, 0, 0, false, false, 0, none, 0)))
section C10
theorem cI0 {a q1 q2 q3 : Nat} {c1 c2 c3 : ClassId} {F : Nat → va_E} {mo bo id : Int32} {d : ck_A} (h1 : F a = .inr (3, eO ((a, q1, q2, q3), (c1, c2, c3)) (cs0 mo bo id))) (h2 : F q1 = rowE c1 6 (fun _ => none)) (h3 : F q2 = rowE c2 60 (fun _ => none)) (h4 : F q3 = rowE c3 100 (fun _ => none)) : cI ((a, q1, q2, q3), (c1, c2, c3)) d (cs0 mo bo id) ((([a] ++ [q1]) ++ [q2]) ++ [q3]) F := by
  have e0 : ∀ ad : Nat → Nat, eA 0 ad = fun _ => none := fun ad => by funext i; exact eA_out (Nat.not_lt_zero i)
  refine ⟨⟨⟨Nat.zero_le _, Nat.zero_le _, Nat.zero_le _⟩, fun i h => absurd h (Nat.not_lt_zero i), fun i h => absurd h (Nat.not_lt_zero i)⟩, ⟨by simp, h1⟩, ⟨by simp, h2.trans ?_⟩, ⟨by simp, h3.trans ?_⟩, ⟨by simp, h4.trans ?_⟩, fun i h => absurd h (Nat.not_lt_zero i), fun i h => absurd h (Nat.not_lt_zero i), fun i h => absurd h (Nat.not_lt_zero i)⟩
  · show _ = rowE c1 6 (eA 0 d.1)
    rw [e0]
  · show _ = rowE c2 60 (eA 0 d.2.1)
    rw [e0]
  · show _ = rowE c3 100 (eA 0 d.2.2)
    rw [e0]
theorem rp_newq {p : Program} {l : Launch} {e : Env} {R : Room} {s : State} {m : MethodId} {args : Array Value} {below : List Frame} {meth : Method} {c : Code} {H : Heap} {locs : List Loc} {cells slots : Nat} {Q : State → Prop} {cc : ByteArray} {pc nL : Nat} {ls : Array Slot} {rest : List Value} {D : va_G} {A : Nat → Prop} {tys : List (ClassId × FieldType)} {H0 : Heap} {own : String} {LL : List Nat} {g : Nat → va_E} (hC : gX own tys D p s m args c cc nL) (hA : ∀ q, H0.size ≤ q → A q) (hH : gH D (rI LL) g A H0 H locs) {C : String} {index : Nat} (hcl : Cond.classLink own index C ∈ wA) (hao : va_AO C s) {n : Int32} {N : Nat} (hn : ¬ n < 0) (hN : n.toNatClampNeg = N) (hbytes : N * 4 ≤ 536870912) (hcells : cells + 1 ≤ R.cells) (hslots : slots + N ≤ R.slots) (hdg : decode cc pc = .ok (.anewarray index, 3))
    (kk : ∀ (q : Nat) (cA : ClassId) (H1 : Heap), q ∉ LL → gX own (tys ++ [(cA, .object C)]) D p s m args c cc nL → gH D (rI (LL ++ [q])) (va_up g q (rowE cA N (fun _ => none))) A H0 H1 locs → W p l e R s m args below meth c H1 locs (cells + 1) (slots + N) Q (F0 m (pc + 3) ls (.ref q :: rest))) : W p l e R s m args below meth c H locs cells slots Q (F0 m pc ls (.int n :: rest)) := by
  obtain ⟨L, f, ⟨rfl, rfl⟩, hP, hD, hS⟩ := hH
  exact pw_newq hC.1 hC.2.1 hC.2.2.2.1 (hC.2.2.1 _ hcl) hao hC.2.2.2.2.1 hP hD hS hA hn hN hbytes hcells hslots hdg (fun q cA H1 hq hK h1 h2 h3 => kk q cA H1 hq ⟨hC.1, hC.2.1, hC.2.2.1, hC.2.2.2.1, hK, hC.2.2.2.2.2⟩ ⟨_, _, ⟨rfl, rfl⟩, h1, h2, h3⟩)
def cP0 (D : va_G) (a : Nat) (g : Nat → va_E) (sz : Nat) (av : List Value) : Array Value → State → Prop := va_Pc av (fun U => U.heap.size = sz ∧ va_P D vwCl (va_pl [a] g) U.heap ∧ va_K D vwCl [] U ∧ va_D (fun _ => True) (va_pl [a] g) ∧ va_AO RX1 U ∧ va_AO RX2 U ∧ va_AO RX0 U)
def cB0 (D : va_G) (A : Nat → Prop) (u : ck_F × ck_A × cs_S) (t : State) : Prop := gB D (ck_tys u.1) (cJ u.1) A u.2 t
variable {l : Launch} {D : va_G} {a : Nat} {g : Nat → va_E} {sz : Nat}
set_option maxHeartbeats 1000000 in
set_option maxRecDepth 100000 in
theorem c_Cinit (hg : g a = .inr (3, [.int 0, .int 0, .int 0, .int 0, .null, .null, .null, .int 0, .int 0, .int 0])) (mo bo id : Int32) : Met l yC_init (wz yC_init bC_init 4 none) (rmL 2 3 166) (cP0 D a g sz [.ref a, .int mo, .int bo, .int id]) (va_Qv (fun (u : ck_F × ck_A × cs_S) => kO u.1 = a ∧ u.2.2 = cs0 (zNear mo 1 4) (zNear bo 0 100000) (zNear id 1 1000)) (cB0 D (va_A (va_pl [a] g) sz)) (va_A (va_pl [a] g) sz)) 3 166 (va_A (va_pl [a] g) sz) := by
  refine Met.ofW (cc := bC_init) (maxL := 4) (ret := none) (by decide) rfl ?_
  intro p e s m args below meth c s₁ B hml hv
  obtain ⟨rfl, hsz, hP, hK, hD0, ao1, ao2, ao3⟩ := hv
  subst hsz
  rw [lg_entry_eq]
  have hts := atoms_spec (ws := wz yC_init bC_init 4 none) B.pre
  have hown : s.vm.findClass RX3 = some m.cls := findClass_of_methodNamed B.named
  have hC : gX RX3 [] D p s m ([.ref a, .int mo, .int bo, .int id] : List Value).toArray c bC_init 4 := ⟨B.exec, B.bytes, fun w h => hts w (List.mem_cons_of_mem _ h), hown, hK, hml⟩
  have hr := B.returns
  have hlk := B.notSynchronized
  have hnm : meth.name = "<init>" := (name_of_methodNamed B.named B.method).1
  have hH : gH D (rI [a]) g (va_A (va_pl [a] g) s.heap.size) s.heap s.heap [] := ⟨_, _, ⟨rfl, rfl⟩, hP, hD0.self, va_S.rf⟩
  have hl := lv_entry ([.ref a, .int mo, .int bo, .int id]) (n := 4) (Nat.le_of_ble_eq_true rfl)
  generalize (lg_sl ([.ref a, .int mo, .int bo, .int id]) ++ List.replicate (4 - (lg_sl ([.ref a, .int mo, .int bo, .int id])).length) Slot.unset).toArray = ls at hl ⊢
  generalize hAe : va_A (va_pl [a] g) s.heap.size = A at hH ⊢
  have hA : ∀ q : Nat, s.heap.size ≤ q → A q := fun q h => by rw [← hAe]; exact Or.inr h
  have hx := hC.1
  have hb := hC.2.1
  have hml := hC.2.2.2.2.2
  have hts := hC.2.2.1
  have hown := hC.2.2.2.1
  have hl : lv_has ls 4 [(0, _), (1, _), (2, _), (3, _)] := hl
  first | refine lv_aload_n hx hb dC_init_0 rfl (lv_at hl 0 rfl) ?_ | refine lv_aload_nN hx hb dC_init_0 rfl (lv_at hl 0 rfl) ?_
  refine W.objInit hx hb hown (hts _ wm_C_1) (hts _ wi_O_init) (hts _ wc_O_init) rfl (by rw [hml]; exact hl.1) rfl dC_init_1 (Nat.le_of_ble_eq_true rfl) (Nat.le_of_ble_eq_true rfl) ?_
  refine W.eq (g2 := F0 m 4 ls []) rfl ?_
  first | refine lv_aload_n hx hb dC_init_4 rfl (lv_at hl 0 rfl) ?_ | refine lv_aload_nN hx hb dC_init_4 rfl (lv_at hl 0 rfl) ?_
  refine lv_bipush (v := 6) hx hb dC_init_5 (by decide) ?_
  refine rp_newq hC hA hH wk_C_9 ao1 (by decide) (N := 6) (by decide) (by decide) (Nat.le_of_ble_eq_true rfl) (Nat.le_of_ble_eq_true rfl) dC_init_7 (fun q1 c1 H hq1 hC hH => ?_)
  have n1 : a ≠ q1 := fun z => hq1 (by rw [z]; exact List.mem_singleton.mpr rfl)
  refine rp_putF hC hH inX3 tyX3 tyX3_ok nmX3 (List.mem_append_left _ (List.mem_singleton.mpr rfl)) ((va_up_ne _ _ n1).trans hg) rfl 4 (by decide) wf_C_11 rfl hnm rfl rfl rfl (Nat.le_of_ble_eq_true rfl) dC_init_10 (fun H locs hH => ?_)
  first | refine lv_aload_n hx hb dC_init_13 rfl (lv_at hl 0 rfl) ?_ | refine lv_aload_nN hx hb dC_init_13 rfl (lv_at hl 0 rfl) ?_
  refine lv_bipush (v := 60) hx hb dC_init_14 (by decide) ?_
  refine rp_newq hC hA hH wk_C_15 ao2 (by decide) (N := 60) (by decide) (by decide) (Nat.le_of_ble_eq_true rfl) (Nat.le_of_ble_eq_true rfl) dC_init_16 (fun q2 c2 H hq2 hC hH => ?_)
  have n2 : a ≠ q2 := fun z => hq2 (by rw [z]; exact List.mem_append_left _ (List.mem_singleton.mpr rfl))
  have n12 : q1 ≠ q2 := fun z => hq2 (by rw [z]; exact List.mem_append_right _ (List.mem_singleton.mpr rfl))
  refine rp_putF hC hH inX3 tyX3 tyX3_ok nmX3 (List.mem_append_left _ (List.mem_append_left _ (List.mem_singleton.mpr rfl))) ((va_up_ne _ _ n2).trans (va_up_self _ _ _)) rfl 5 (by decide) wf_C_17 rfl hnm rfl rfl rfl (Nat.le_of_ble_eq_true rfl) dC_init_19 (fun H locs hH => ?_)
  first | refine lv_aload_n hx hb dC_init_22 rfl (lv_at hl 0 rfl) ?_ | refine lv_aload_nN hx hb dC_init_22 rfl (lv_at hl 0 rfl) ?_
  refine lv_bipush (v := 100) hx hb dC_init_23 (by decide) ?_
  refine rp_newq hC hA hH wk_C_21 ao3 (by decide) (N := 100) (by decide) (by decide) (Nat.le_of_ble_eq_true rfl) (Nat.le_of_ble_eq_true rfl) dC_init_25 (fun q3 c3 H hq3 hC hH => ?_)
  have n3 : a ≠ q3 := fun z => hq3 (by rw [z]; exact List.mem_append_left _ (List.mem_append_left _ (List.mem_singleton.mpr rfl)))
  have n13 : q1 ≠ q3 := fun z => hq3 (by rw [z]; exact List.mem_append_left _ (List.mem_append_right _ (List.mem_singleton.mpr rfl)))
  have n23 : q2 ≠ q3 := fun z => hq3 (by rw [z]; exact List.mem_append_right _ (List.mem_singleton.mpr rfl))
  have hm : a ∈ (([a] ++ [q1]) ++ [q2]) ++ [q3] := List.mem_append_left _ (List.mem_append_left _ (List.mem_append_left _ (List.mem_singleton.mpr rfl)))
  refine rp_putF hC hH inX3 tyX3 tyX3_ok nmX3 hm ((va_up_ne _ _ n3).trans (va_up_self _ _ _)) rfl 6 (by decide) wf_C_23 rfl hnm rfl rfl rfl (Nat.le_of_ble_eq_true rfl) dC_init_28 (fun H locs hH => ?_)
  first | refine lv_aload_n hx hb dC_init_31 rfl (lv_at hl 0 rfl) ?_ | refine lv_aload_nN hx hb dC_init_31 rfl (lv_at hl 0 rfl) ?_
  refine lv_iload_n hx hb dC_init_32 rfl (lv_at hl 1 rfl) ?_
  refine lv_iconst (v := 1) hx hb dC_init_33 (by decide) ?_
  refine lv_iconst (v := 4) hx hb dC_init_34 (by decide) ?_
  refine gcTi hC.fix hl.1 (c_nearest _ _ _) kC_27 ⟨Nat.le_of_ble_eq_true rfl, Nat.le_of_ble_eq_true rfl⟩ dC_init_35 ⟨Nat.le_of_ble_eq_true rfl, Nat.le_of_ble_eq_true rfl⟩ rfl (Nat.le_of_ble_eq_true rfl) (fun r hr1 => ?_)
  subst hr1
  refine rp_putF hC hH inX3 tyX3 tyX3_ok nmX3 hm (va_up_self _ _ _) rfl 0 (by decide) wf_C_31 rfl hnm rfl rfl rfl (Nat.le_of_ble_eq_true rfl) dC_init_38 (fun H locs hH => ?_)
  first | refine lv_aload_n hx hb dC_init_41 rfl (lv_at hl 0 rfl) ?_ | refine lv_aload_nN hx hb dC_init_41 rfl (lv_at hl 0 rfl) ?_
  refine lv_iload_n hx hb dC_init_42 rfl (lv_at hl 2 rfl) ?_
  refine lv_iconst (v := 0) hx hb dC_init_43 (by decide) ?_
  refine lv_ldc hx hb hown (hts _ wq_C_35) dC_init_44 ?_
  refine gcTi hC.fix hl.1 (c_nearest _ _ _) kC_27 ⟨Nat.le_of_ble_eq_true rfl, Nat.le_of_ble_eq_true rfl⟩ dC_init_46 ⟨Nat.le_of_ble_eq_true rfl, Nat.le_of_ble_eq_true rfl⟩ rfl (Nat.le_of_ble_eq_true rfl) (fun r hr1 => ?_)
  subst hr1
  refine rp_putF hC hH inX3 tyX3 tyX3_ok nmX3 hm (va_up_self _ _ _) rfl 1 (by decide) wf_C_36 rfl hnm rfl rfl rfl (Nat.le_of_ble_eq_true rfl) dC_init_49 (fun H locs hH => ?_)
  first | refine lv_aload_n hx hb dC_init_52 rfl (lv_at hl 0 rfl) ?_ | refine lv_aload_nN hx hb dC_init_52 rfl (lv_at hl 0 rfl) ?_
  refine lv_iload_n hx hb dC_init_53 rfl (lv_at hl 3 rfl) ?_
  refine lv_iconst (v := 1) hx hb dC_init_54 (by decide) ?_
  refine lv_sipush (v := 1000) hx hb dC_init_55 (by decide) ?_
  refine gcTi hC.fix hl.1 (c_nearest _ _ _) kC_27 ⟨Nat.le_of_ble_eq_true rfl, Nat.le_of_ble_eq_true rfl⟩ dC_init_58 ⟨Nat.le_of_ble_eq_true rfl, Nat.le_of_ble_eq_true rfl⟩ rfl (Nat.le_of_ble_eq_true rfl) (fun r hr1 => ?_)
  subst hr1
  refine rp_putF hC hH inX3 tyX3 tyX3_ok nmX3 hm (va_up_self _ _ _) rfl 2 (by decide) wf_C_39 rfl hnm rfl rfl rfl (Nat.le_of_ble_eq_true rfl) dC_init_61 (fun H locs hH => ?_)
  simp only [bx_uu] at hH
  have hJ : gH D (cJ ((a, q1, q2, q3), (c1, c2, c3))) (((fun _ => 0), (fun _ => 0), (fun _ => 0)), cs0 (zNear mo 1 4) (zNear bo 0 100000) (zNear id 1 1000)) A s.heap H locs := gH.to hH (cI0 (va_up_self _ _ _) (by rw [va_up_ne _ _ n1.symm, va_up_ne _ _ n13, va_up_ne _ _ n1.symm, va_up_ne _ _ n12, va_up_ne _ _ n1.symm, va_up_self]) (by rw [va_up_ne _ _ n2.symm, va_up_ne _ _ n23, va_up_ne _ _ n2.symm, va_up_self]) (by rw [va_up_ne _ _ n3.symm, va_up_self]))
  exact W.vret hx hb hr (fun t ht hW => ⟨⟨(((a, q1, q2, q3), (c1, c2, c3)), (((fun _ => 0), (fun _ => 0), (fun _ => 0)), cs0 (zNear mo 1 4) (zNear bo 0 100000) (zNear id 1 1000))), rfl, ⟨rfl, rfl⟩, (gH.B (tys := ck_tys ((a, q1, q2, q3), (c1, c2, c3))) hC hJ ht hW).1⟩, (gH.B hC hJ ht hW).2⟩) hJ.L dC_init_64
end C10
end
section
/-! THE REFERENCE'S STATE: (most, bound, idle), clock, how many of each; its columns of ints (booleans are 0, 1) and of longs, by the field's number -/
abbrev ms_S : Type := (Int32 × Int32 × Int32) × Int32 × (Nat × Nat × Nat) × (Nat → Nat → Int32) × (Nat → Nat → Int64)
abbrev yMo (y : ms_S) : Int32 := y.1.1
abbrev yBo (y : ms_S) : Int32 := y.1.2.1
abbrev yId (y : ms_S) : Int32 := y.1.2.2
abbrev yCl (y : ms_S) : Int32 := y.2.1
abbrev yT (y : ms_S) : Nat := y.2.2.1.1
abbrev yW (y : ms_S) : Nat := y.2.2.1.2.1
abbrev yR (y : ms_S) : Nat := y.2.2.1.2.2
abbrev MI (y : ms_S) : Nat → Nat → Int32 := y.2.2.2.1
abbrev ML (y : ms_S) : Nat → Nat → Int64 := y.2.2.2.2
abbrev sMI (y : ms_S) (j i : Nat) (v : Int32) : ms_S := (y.1, y.2.1, y.2.2.1, va_up (MI y) j (upd (MI y j) i v), ML y)
abbrev sML (y : ms_S) (j i : Nat) (v : Int64) : ms_S := (y.1, y.2.1, y.2.2.1, MI y, va_up (ML y) j (vp_updL (ML y j) i v))
abbrev sYcl (y : ms_S) (c : Int32) : ms_S := (y.1, c, y.2.2.1, MI y, ML y)
abbrev sYT (y : ms_S) (n : Nat) : ms_S := (y.1, y.2.1, (n, yW y, yR y), MI y, ML y)
abbrev sYW (y : ms_S) (n : Nat) : ms_S := (y.1, y.2.1, (yT y, n, yR y), MI y, ML y)
abbrev sYR (y : ms_S) (n : Nat) : ms_S := (y.1, y.2.1, (yT y, yW y, n), MI y, ML y)
theorem MI_sMI (y : ms_S) (a i : Nat) (v : Int32) (b k : Nat) : MI (sMI y a i v) b k = if b = a ∧ k = i then v else MI y b k := by
  show va_up (MI y) a (upd (MI y a) i v) b k = _
  by_cases h : b = a
  · subst h
    rw [va_up_self]
    by_cases h2 : k = i
    · subst h2
      rw [if_pos ⟨rfl, rfl⟩, pk_us]
    · rw [if_neg (fun q => h2 q.2), pk_un h2]
  · rw [va_up_ne _ _ h, if_neg (fun q => h q.1)]
theorem ML_sML (y : ms_S) (a i : Nat) (v : Int64) (b k : Nat) : ML (sML y a i v) b k = if b = a ∧ k = i then v else ML y b k := by
  show va_up (ML y) a (vp_updL (ML y a) i v) b k = _
  by_cases h : b = a
  · subst h
    rw [va_up_self]
    by_cases h2 : k = i
    · subst h2
      rw [if_pos ⟨rfl, rfl⟩, pk_uLs]
    · rw [if_neg (fun q => h2 q.2), pk_uLn h2]
  · rw [va_up_ne _ _ h, if_neg (fun q => h q.1)]
theorem ML_sMI (y : ms_S) (a i : Nat) (v : Int32) : ML (sMI y a i v) = ML y := rfl
theorem MI_sML (y : ms_S) (a i : Nat) (v : Int64) : MI (sML y a i v) = MI y := rfl
def mLen (j : Nat) : Nat := if j < 10 then 6 else if j < 19 then 60 else 100
def mTy (j : Nat) : FieldType := if j = 7 ∨ j = 18 ∨ j = 27 ∨ j = 28 then .long else if j = 25 ∨ j = 26 then .boolean else .int
/-- the object, its rows by the field's number, their array classes -/
abbrev mk_F : Type := Nat × (Nat → Nat) × (Nat → ClassId)
abbrev mO (k : mk_F) : Nat := k.1
abbrev mA (k : mk_F) : Nat → Nat := k.2.1
def mE (c : ClassId) (y : ms_S) (j : Nat) : va_E := if mTy j = .long then .inl (c, mLen j, .inr (.inl (ML y j))) else .inl (c, mLen j, .inl (MI y j))
def eM (k : mk_F) (y : ms_S) : List Value := [.int (yMo y), .int (yBo y), .int (yId y), .int (yCl y), .int (nI (yT y)), .int (nI (yW y)), .int (nI (yR y)), .ref (mA k 7), .ref (mA k 8), .ref (mA k 9), .ref (mA k 10), .ref (mA k 11), .ref (mA k 12), .ref (mA k 13), .ref (mA k 14), .ref (mA k 15), .ref (mA k 16), .ref (mA k 17), .ref (mA k 18), .ref (mA k 19), .ref (mA k 20), .ref (mA k 21), .ref (mA k 22), .ref (mA k 23), .ref (mA k 24), .ref (mA k 25), .ref (mA k 26), .ref (mA k 27), .ref (mA k 28)]
def mk_tys (k : mk_F) : List (ClassId × FieldType) := (List.range 22).map (fun j => (k.2.2 (j + 7), mTy (j + 7)))
theorem mk_at (k : mk_F) {j : Nat} (h : 7 ≤ j) (h2 : j < 29) : (mk_tys k)[j - 7]? = some (k.2.2 j, mTy j) := by
  unfold mk_tys
  rw [List.getElem?_map, List.getElem?_range (by omega)]
  simp only [Option.map]
  rw [show j - 7 + 7 = j by omega]
def mJ (k : mk_F) : ms_S → List Nat → (Nat → va_E) → Prop := fun y LL f => (mO k ∈ LL ∧ f (mO k) = .inr (4, eM k y)) ∧ (∀ j, 7 ≤ j → j < 29 → mA k j ∈ LL ∧ f (mA k j) = mE (k.2.2 j) y j) ∧ (∀ i j, 7 ≤ i → i < 29 → 7 ≤ j → j < 29 → mA k i = mA k j → i = j)
theorem mJ.o {k : mk_F} {y : ms_S} : ∀ LL f, mJ k y LL f → mO k ∈ LL ∧ f (mO k) = .inr (4, eM k y) := fun LL f h => h.1
theorem mE_ne {c : ClassId} {y : ms_S} {j : Nat} {q : Nat × List Value} : mE c y j ≠ .inr q := by
  unfold mE
  split <;> simp
theorem mE_i {c : ClassId} {y : ms_S} {j : Nat} (h : mTy j ≠ .long) : mE c y j = .inl (c, mLen j, .inl (MI y j)) := if_neg h
theorem mE_l {c : ClassId} {y : ms_S} {j : Nat} (h : mTy j = .long) : mE c y j = .inl (c, mLen j, .inr (.inl (ML y j))) := if_pos h
theorem mE_congr {c : ClassId} {y y' : ms_S} {j : Nat} (h1 : MI y' j = MI y j) (h2 : ML y' j = ML y j) : mE c y' j = mE c y j := by
  unfold mE
  rw [h1, h2]
theorem mJ.obj {k : mk_F} {y y' : ms_S} {LL : List Nat} {f : Nat → va_E} (h : mJ k y LL f) (h1 : MI y' = MI y) (h2 : ML y' = ML y) : mJ k y' LL (va_up f (mO k) (.inr (4, eM k y'))) := by
  refine ⟨⟨h.1.1, va_up_self _ _ _⟩, fun j hj hj2 => ⟨(h.2.1 j hj hj2).1, ?_⟩, h.2.2⟩
  have e := (h.2.1 j hj hj2).2
  rw [va_up_ne _ _ (fun q => by rw [q, h.1.2] at e; exact mE_ne e.symm), e]
  exact (mE_congr (by rw [h1]) (by rw [h2])).symm
theorem mJ.arr {k : mk_F} {y y' : ms_S} {LL : List Nat} {f : Nat → va_E} (h : mJ k y LL f) {a : Nat} (ha : 7 ≤ a) (ha2 : a < 29) (h0 : eM k y' = eM k y) (h1 : ∀ b, b ≠ a → MI y' b = MI y b) (h2 : ∀ b, b ≠ a → ML y' b = ML y b) : mJ k y' LL (va_up f (mA k a) (mE (k.2.2 a) y' a)) := by
  refine ⟨⟨h.1.1, ?_⟩, fun j hj hj2 => ⟨(h.2.1 j hj hj2).1, ?_⟩, h.2.2⟩
  · have e := (h.2.1 a ha ha2).2
    rw [va_up_ne _ _ (fun q => by have e2 := h.1.2; rw [q, e] at e2; exact mE_ne e2), h.1.2, h0]
  · by_cases e : j = a
    · subst e
      rw [va_up_self]
    · rw [va_up_ne _ _ (fun q => e (h.2.2 j a hj hj2 ha ha2 q)), (h.2.1 j hj hj2).2]
      exact (mE_congr (h1 j e) (h2 j e)).symm
abbrev mX (D : va_G) (k : mk_F) (p : Program) (s : State) (m : MethodId) (args : Array Value) (c : Code) (cc : ByteArray) (n : Nat) : Prop := gX RX4 (mk_tys k) D p s m args c cc n
abbrev mG (D : va_G) (k : mk_F) (y : ms_S) (A : Nat → Prop) (H0 H : Heap) (locs : List Loc) : Prop := gH D (mJ k) y A H0 H locs
section MR
variable {p : Program} {l : Launch} {e : Env} {R : Room} {s : State} {m : MethodId} {args : Array Value} {below : List Frame} {meth : Method} {c : Code} {H : Heap} {locs : List Loc} {cells slots : Nat} {Q : State → Prop}
variable {cc : ByteArray} {pc nL : Nat} {ls : Array Slot} {rest : List Value} {D : va_G} {k : mk_F} {y : ms_S} {A : Nat → Prop} {H0 : Heap}
theorem gM_most (hC : mX D k p s m args c cc nL) (hH : mG D k y A H0 H locs) (hdg : decode cc pc = .ok (.getfield 82, 3)) (kk : W p l e R s m args below meth c H locs cells slots Q (F0 m (pc + 3) ls (.int (yMo y) :: rest))) : W p l e R s m args below meth c H locs cells slots Q (F0 m pc ls (.ref (mO k) :: rest)) := by
  obtain ⟨LL, f, hI, hP, hD, hS⟩ := hH
  exact pw_get hC.1 hC.2.1 hC.2.2.1 inX4 hC.2.2.2.1 hC.2.2.2.2.1 hP hI.1.1 hI.1.2 rfl 0 (by decide) (hC.2.2.1 _ wf_M_82) rfl hdg kk
theorem gM_bound (hC : mX D k p s m args c cc nL) (hH : mG D k y A H0 H locs) (hdg : decode cc pc = .ok (.getfield 87, 3)) (kk : W p l e R s m args below meth c H locs cells slots Q (F0 m (pc + 3) ls (.int (yBo y) :: rest))) : W p l e R s m args below meth c H locs cells slots Q (F0 m pc ls (.ref (mO k) :: rest)) := by
  obtain ⟨LL, f, hI, hP, hD, hS⟩ := hH
  exact pw_get hC.1 hC.2.1 hC.2.2.1 inX4 hC.2.2.2.1 hC.2.2.2.2.1 hP hI.1.1 hI.1.2 rfl 1 (by decide) (hC.2.2.1 _ wf_M_87) rfl hdg kk
theorem gM_idle (hC : mX D k p s m args c cc nL) (hH : mG D k y A H0 H locs) (hdg : decode cc pc = .ok (.getfield 90, 3)) (kk : W p l e R s m args below meth c H locs cells slots Q (F0 m (pc + 3) ls (.int (yId y) :: rest))) : W p l e R s m args below meth c H locs cells slots Q (F0 m pc ls (.ref (mO k) :: rest)) := by
  obtain ⟨LL, f, hI, hP, hD, hS⟩ := hH
  exact pw_get hC.1 hC.2.1 hC.2.2.1 inX4 hC.2.2.2.1 hC.2.2.2.2.1 hP hI.1.1 hI.1.2 rfl 2 (by decide) (hC.2.2.1 _ wf_M_90) rfl hdg kk
theorem gM_clock (hC : mX D k p s m args c cc nL) (hH : mG D k y A H0 H locs) (hdg : decode cc pc = .ok (.getfield 134, 3)) (kk : W p l e R s m args below meth c H locs cells slots Q (F0 m (pc + 3) ls (.int (yCl y) :: rest))) : W p l e R s m args below meth c H locs cells slots Q (F0 m pc ls (.ref (mO k) :: rest)) := by
  obtain ⟨LL, f, hI, hP, hD, hS⟩ := hH
  exact pw_get hC.1 hC.2.1 hC.2.2.1 inX4 hC.2.2.2.1 hC.2.2.2.2.1 hP hI.1.1 hI.1.2 rfl 3 (by decide) (hC.2.2.1 _ wf_M_134) rfl hdg kk
theorem gM_tools (hC : mX D k p s m args c cc nL) (hH : mG D k y A H0 H locs) (hdg : decode cc pc = .ok (.getfield 93, 3)) (kk : W p l e R s m args below meth c H locs cells slots Q (F0 m (pc + 3) ls (.int (nI (yT y)) :: rest))) : W p l e R s m args below meth c H locs cells slots Q (F0 m pc ls (.ref (mO k) :: rest)) := by
  obtain ⟨LL, f, hI, hP, hD, hS⟩ := hH
  exact pw_get hC.1 hC.2.1 hC.2.2.1 inX4 hC.2.2.2.1 hC.2.2.2.2.1 hP hI.1.1 hI.1.2 rfl 4 (by decide) (hC.2.2.1 _ wf_M_93) rfl hdg kk
theorem gM_workers (hC : mX D k p s m args c cc nL) (hH : mG D k y A H0 H locs) (hdg : decode cc pc = .ok (.getfield 107, 3)) (kk : W p l e R s m args below meth c H locs cells slots Q (F0 m (pc + 3) ls (.int (nI (yW y)) :: rest))) : W p l e R s m args below meth c H locs cells slots Q (F0 m pc ls (.ref (mO k) :: rest)) := by
  obtain ⟨LL, f, hI, hP, hD, hS⟩ := hH
  exact pw_get hC.1 hC.2.1 hC.2.2.1 inX4 hC.2.2.2.1 hC.2.2.2.2.1 hP hI.1.1 hI.1.2 rfl 5 (by decide) (hC.2.2.1 _ wf_M_107) rfl hdg kk
theorem gM_requests (hC : mX D k p s m args c cc nL) (hH : mG D k y A H0 H locs) (hdg : decode cc pc = .ok (.getfield 100, 3)) (kk : W p l e R s m args below meth c H locs cells slots Q (F0 m (pc + 3) ls (.int (nI (yR y)) :: rest))) : W p l e R s m args below meth c H locs cells slots Q (F0 m pc ls (.ref (mO k) :: rest)) := by
  obtain ⟨LL, f, hI, hP, hD, hS⟩ := hH
  exact pw_get hC.1 hC.2.1 hC.2.2.1 inX4 hC.2.2.2.1 hC.2.2.2.2.1 hP hI.1.1 hI.1.2 rfl 6 (by decide) (hC.2.2.1 _ wf_M_100) rfl hdg kk
theorem gM_editionOf (hC : mX D k p s m args c cc nL) (hH : mG D k y A H0 H locs) (hdg : decode cc pc = .ok (.getfield 7, 3)) (kk : W p l e R s m args below meth c H locs cells slots Q (F0 m (pc + 3) ls (.ref (mA k 7) :: rest))) : W p l e R s m args below meth c H locs cells slots Q (F0 m pc ls (.ref (mO k) :: rest)) := by
  obtain ⟨LL, f, hI, hP, hD, hS⟩ := hH
  exact pw_get hC.1 hC.2.1 hC.2.2.1 inX4 hC.2.2.2.1 hC.2.2.2.2.1 hP hI.1.1 hI.1.2 rfl 7 (by decide) (hC.2.2.1 _ wf_M_7) rfl hdg kk
theorem gM_quirkOf (hC : mX D k p s m args c cc nL) (hH : mG D k y A H0 H locs) (hdg : decode cc pc = .ok (.getfield 13, 3)) (kk : W p l e R s m args below meth c H locs cells slots Q (F0 m (pc + 3) ls (.ref (mA k 8) :: rest))) : W p l e R s m args below meth c H locs cells slots Q (F0 m pc ls (.ref (mO k) :: rest)) := by
  obtain ⟨LL, f, hI, hP, hD, hS⟩ := hH
  exact pw_get hC.1 hC.2.1 hC.2.2.1 inX4 hC.2.2.2.1 hC.2.2.2.2.1 hP hI.1.1 hI.1.2 rfl 8 (by decide) (hC.2.2.1 _ wf_M_13) rfl hdg kk
theorem gM_barsOf (hC : mX D k p s m args c cc nL) (hH : mG D k y A H0 H locs) (hdg : decode cc pc = .ok (.getfield 17, 3)) (kk : W p l e R s m args below meth c H locs cells slots Q (F0 m (pc + 3) ls (.ref (mA k 9) :: rest))) : W p l e R s m args below meth c H locs cells slots Q (F0 m pc ls (.ref (mO k) :: rest)) := by
  obtain ⟨LL, f, hI, hP, hD, hS⟩ := hH
  exact pw_get hC.1 hC.2.1 hC.2.2.1 inX4 hC.2.2.2.1 hC.2.2.2.2.1 hP hI.1.1 hI.1.2 rfl 9 (by decide) (hC.2.2.1 _ wf_M_17) rfl hdg kk
theorem gM_toolOf (hC : mX D k p s m args c cc nL) (hH : mG D k y A H0 H locs) (hdg : decode cc pc = .ok (.getfield 20, 3)) (kk : W p l e R s m args below meth c H locs cells slots Q (F0 m (pc + 3) ls (.ref (mA k 10) :: rest))) : W p l e R s m args below meth c H locs cells slots Q (F0 m pc ls (.ref (mO k) :: rest)) := by
  obtain ⟨LL, f, hI, hP, hD, hS⟩ := hH
  exact pw_get hC.1 hC.2.1 hC.2.2.1 inX4 hC.2.2.2.1 hC.2.2.2.2.1 hP hI.1.1 hI.1.2 rfl 10 (by decide) (hC.2.2.1 _ wf_M_20) rfl hdg kk
theorem gM_state (hC : mX D k p s m args c cc nL) (hH : mG D k y A H0 H locs) (hdg : decode cc pc = .ok (.getfield 23, 3)) (kk : W p l e R s m args below meth c H locs cells slots Q (F0 m (pc + 3) ls (.ref (mA k 11) :: rest))) : W p l e R s m args below meth c H locs cells slots Q (F0 m pc ls (.ref (mO k) :: rest)) := by
  obtain ⟨LL, f, hI, hP, hD, hS⟩ := hH
  exact pw_get hC.1 hC.2.1 hC.2.2.1 inX4 hC.2.2.2.1 hC.2.2.2.2.1 hP hI.1.1 hI.1.2 rfl 11 (by decide) (hC.2.2.1 _ wf_M_23) rfl hdg kk
theorem gM_finished (hC : mX D k p s m args c cc nL) (hH : mG D k y A H0 H locs) (hdg : decode cc pc = .ok (.getfield 26, 3)) (kk : W p l e R s m args below meth c H locs cells slots Q (F0 m (pc + 3) ls (.ref (mA k 12) :: rest))) : W p l e R s m args below meth c H locs cells slots Q (F0 m pc ls (.ref (mO k) :: rest)) := by
  obtain ⟨LL, f, hI, hP, hD, hS⟩ := hH
  exact pw_get hC.1 hC.2.1 hC.2.2.1 inX4 hC.2.2.2.1 hC.2.2.2.2.1 hP hI.1.1 hI.1.2 rfl 12 (by decide) (hC.2.2.1 _ wf_M_26) rfl hdg kk
theorem gM_memory (hC : mX D k p s m args c cc nL) (hH : mG D k y A H0 H locs) (hdg : decode cc pc = .ok (.getfield 29, 3)) (kk : W p l e R s m args below meth c H locs cells slots Q (F0 m (pc + 3) ls (.ref (mA k 13) :: rest))) : W p l e R s m args below meth c H locs cells slots Q (F0 m pc ls (.ref (mO k) :: rest)) := by
  obtain ⟨LL, f, hI, hP, hD, hS⟩ := hH
  exact pw_get hC.1 hC.2.1 hC.2.2.1 inX4 hC.2.2.2.1 hC.2.2.2.2.1 hP hI.1.1 hI.1.2 rfl 13 (by decide) (hC.2.2.1 _ wf_M_29) rfl hdg kk
theorem gM_busyWith (hC : mX D k p s m args c cc nL) (hH : mG D k y A H0 H locs) (hdg : decode cc pc = .ok (.getfield 32, 3)) (kk : W p l e R s m args below meth c H locs cells slots Q (F0 m (pc + 3) ls (.ref (mA k 14) :: rest))) : W p l e R s m args below meth c H locs cells slots Q (F0 m pc ls (.ref (mO k) :: rest)) := by
  obtain ⟨LL, f, hI, hP, hD, hS⟩ := hH
  exact pw_get hC.1 hC.2.1 hC.2.2.1 inX4 hC.2.2.2.1 hC.2.2.2.2.1 hP hI.1.1 hI.1.2 rfl 14 (by decide) (hC.2.2.1 _ wf_M_32) rfl hdg kk
theorem gM_why (hC : mX D k p s m args c cc nL) (hH : mG D k y A H0 H locs) (hdg : decode cc pc = .ok (.getfield 35, 3)) (kk : W p l e R s m args below meth c H locs cells slots Q (F0 m (pc + 3) ls (.ref (mA k 15) :: rest))) : W p l e R s m args below meth c H locs cells slots Q (F0 m pc ls (.ref (mO k) :: rest)) := by
  obtain ⟨LL, f, hI, hP, hD, hS⟩ := hH
  exact pw_get hC.1 hC.2.1 hC.2.2.1 inX4 hC.2.2.2.1 hC.2.2.2.2.1 hP hI.1.1 hI.1.2 rfl 15 (by decide) (hC.2.2.1 _ wf_M_35) rfl hdg kk
theorem gM_trusted (hC : mX D k p s m args c cc nL) (hH : mG D k y A H0 H locs) (hdg : decode cc pc = .ok (.getfield 38, 3)) (kk : W p l e R s m args below meth c H locs cells slots Q (F0 m (pc + 3) ls (.ref (mA k 16) :: rest))) : W p l e R s m args below meth c H locs cells slots Q (F0 m pc ls (.ref (mO k) :: rest)) := by
  obtain ⟨LL, f, hI, hP, hD, hS⟩ := hH
  exact pw_get hC.1 hC.2.1 hC.2.2.1 inX4 hC.2.2.2.1 hC.2.2.2.2.1 hP hI.1.1 hI.1.2 rfl 16 (by decide) (hC.2.2.1 _ wf_M_38) rfl hdg kk
theorem gM_since (hC : mX D k p s m args c cc nL) (hH : mG D k y A H0 H locs) (hdg : decode cc pc = .ok (.getfield 41, 3)) (kk : W p l e R s m args below meth c H locs cells slots Q (F0 m (pc + 3) ls (.ref (mA k 17) :: rest))) : W p l e R s m args below meth c H locs cells slots Q (F0 m pc ls (.ref (mO k) :: rest)) := by
  obtain ⟨LL, f, hI, hP, hD, hS⟩ := hH
  exact pw_get hC.1 hC.2.1 hC.2.2.1 inX4 hC.2.2.2.1 hC.2.2.2.2.1 hP hI.1.1 hI.1.2 rfl 17 (by decide) (hC.2.2.1 _ wf_M_41) rfl hdg kk
theorem gM_startedWith (hC : mX D k p s m args c cc nL) (hH : mG D k y A H0 H locs) (hdg : decode cc pc = .ok (.getfield 44, 3)) (kk : W p l e R s m args below meth c H locs cells slots Q (F0 m (pc + 3) ls (.ref (mA k 18) :: rest))) : W p l e R s m args below meth c H locs cells slots Q (F0 m pc ls (.ref (mO k) :: rest)) := by
  obtain ⟨LL, f, hI, hP, hD, hS⟩ := hH
  exact pw_get hC.1 hC.2.1 hC.2.2.1 inX4 hC.2.2.2.1 hC.2.2.2.2.1 hP hI.1.1 hI.1.2 rfl 18 (by decide) (hC.2.2.1 _ wf_M_44) rfl hdg kk
theorem gM_wants (hC : mX D k p s m args c cc nL) (hH : mG D k y A H0 H locs) (hdg : decode cc pc = .ok (.getfield 47, 3)) (kk : W p l e R s m args below meth c H locs cells slots Q (F0 m (pc + 3) ls (.ref (mA k 19) :: rest))) : W p l e R s m args below meth c H locs cells slots Q (F0 m pc ls (.ref (mO k) :: rest)) := by
  obtain ⟨LL, f, hI, hP, hD, hS⟩ := hH
  exact pw_get hC.1 hC.2.1 hC.2.2.1 inX4 hC.2.2.2.1 hC.2.2.2.2.1 hP hI.1.1 hI.1.2 rfl 19 (by decide) (hC.2.2.1 _ wf_M_47) rfl hdg kk
theorem gM_size (hC : mX D k p s m args c cc nL) (hH : mG D k y A H0 H locs) (hdg : decode cc pc = .ok (.getfield 50, 3)) (kk : W p l e R s m args below meth c H locs cells slots Q (F0 m (pc + 3) ls (.ref (mA k 20) :: rest))) : W p l e R s m args below meth c H locs cells slots Q (F0 m pc ls (.ref (mO k) :: rest)) := by
  obtain ⟨LL, f, hI, hP, hD, hS⟩ := hH
  exact pw_get hC.1 hC.2.1 hC.2.2.1 inX4 hC.2.2.2.1 hC.2.2.2.2.1 hP hI.1.1 hI.1.2 rfl 20 (by decide) (hC.2.2.1 _ wf_M_50) rfl hdg kk
theorem gM_kind (hC : mX D k p s m args c cc nL) (hH : mG D k y A H0 H locs) (hdg : decode cc pc = .ok (.getfield 53, 3)) (kk : W p l e R s m args below meth c H locs cells slots Q (F0 m (pc + 3) ls (.ref (mA k 21) :: rest))) : W p l e R s m args below meth c H locs cells slots Q (F0 m pc ls (.ref (mO k) :: rest)) := by
  obtain ⟨LL, f, hI, hP, hD, hS⟩ := hH
  exact pw_get hC.1 hC.2.1 hC.2.2.1 inX4 hC.2.2.2.1 hC.2.2.2.2.1 hP hI.1.1 hI.1.2 rfl 21 (by decide) (hC.2.2.1 _ wf_M_53) rfl hdg kk
theorem gM_by (hC : mX D k p s m args c cc nL) (hH : mG D k y A H0 H locs) (hdg : decode cc pc = .ok (.getfield 56, 3)) (kk : W p l e R s m args below meth c H locs cells slots Q (F0 m (pc + 3) ls (.ref (mA k 22) :: rest))) : W p l e R s m args below meth c H locs cells slots Q (F0 m pc ls (.ref (mO k) :: rest)) := by
  obtain ⟨LL, f, hI, hP, hD, hS⟩ := hH
  exact pw_get hC.1 hC.2.1 hC.2.2.1 inX4 hC.2.2.2.1 hC.2.2.2.2.1 hP hI.1.1 hI.1.2 rfl 22 (by decide) (hC.2.2.1 _ wf_M_56) rfl hdg kk
theorem gM_place (hC : mX D k p s m args c cc nL) (hH : mG D k y A H0 H locs) (hdg : decode cc pc = .ok (.getfield 59, 3)) (kk : W p l e R s m args below meth c H locs cells slots Q (F0 m (pc + 3) ls (.ref (mA k 23) :: rest))) : W p l e R s m args below meth c H locs cells slots Q (F0 m pc ls (.ref (mO k) :: rest)) := by
  obtain ⟨LL, f, hI, hP, hD, hS⟩ := hH
  exact pw_get hC.1 hC.2.1 hC.2.2.1 inX4 hC.2.2.2.1 hC.2.2.2.2.1 hP hI.1.1 hI.1.2 rfl 23 (by decide) (hC.2.2.1 _ wf_M_59) rfl hdg kk
theorem gM_begun (hC : mX D k p s m args c cc nL) (hH : mG D k y A H0 H locs) (hdg : decode cc pc = .ok (.getfield 62, 3)) (kk : W p l e R s m args below meth c H locs cells slots Q (F0 m (pc + 3) ls (.ref (mA k 24) :: rest))) : W p l e R s m args below meth c H locs cells slots Q (F0 m pc ls (.ref (mO k) :: rest)) := by
  obtain ⟨LL, f, hI, hP, hD, hS⟩ := hH
  exact pw_get hC.1 hC.2.1 hC.2.2.1 inX4 hC.2.2.2.1 hC.2.2.2.2.1 hP hI.1.1 hI.1.2 rfl 24 (by decide) (hC.2.2.1 _ wf_M_62) rfl hdg kk
theorem gM_isUnwanted (hC : mX D k p s m args c cc nL) (hH : mG D k y A H0 H locs) (hdg : decode cc pc = .ok (.getfield 65, 3)) (kk : W p l e R s m args below meth c H locs cells slots Q (F0 m (pc + 3) ls (.ref (mA k 25) :: rest))) : W p l e R s m args below meth c H locs cells slots Q (F0 m pc ls (.ref (mO k) :: rest)) := by
  obtain ⟨LL, f, hI, hP, hD, hS⟩ := hH
  exact pw_get hC.1 hC.2.1 hC.2.2.1 inX4 hC.2.2.2.1 hC.2.2.2.2.1 hP hI.1.1 hI.1.2 rfl 25 (by decide) (hC.2.2.1 _ wf_M_65) rfl hdg kk
theorem gM_isRedone (hC : mX D k p s m args c cc nL) (hH : mG D k y A H0 H locs) (hdg : decode cc pc = .ok (.getfield 69, 3)) (kk : W p l e R s m args below meth c H locs cells slots Q (F0 m (pc + 3) ls (.ref (mA k 26) :: rest))) : W p l e R s m args below meth c H locs cells slots Q (F0 m pc ls (.ref (mO k) :: rest)) := by
  obtain ⟨LL, f, hI, hP, hD, hS⟩ := hH
  exact pw_get hC.1 hC.2.1 hC.2.2.1 inX4 hC.2.2.2.1 hC.2.2.2.2.1 hP hI.1.1 hI.1.2 rfl 26 (by decide) (hC.2.2.1 _ wf_M_69) rfl hdg kk
theorem gM_input (hC : mX D k p s m args c cc nL) (hH : mG D k y A H0 H locs) (hdg : decode cc pc = .ok (.getfield 72, 3)) (kk : W p l e R s m args below meth c H locs cells slots Q (F0 m (pc + 3) ls (.ref (mA k 27) :: rest))) : W p l e R s m args below meth c H locs cells slots Q (F0 m pc ls (.ref (mO k) :: rest)) := by
  obtain ⟨LL, f, hI, hP, hD, hS⟩ := hH
  exact pw_get hC.1 hC.2.1 hC.2.2.1 inX4 hC.2.2.2.1 hC.2.2.2.2.1 hP hI.1.1 hI.1.2 rfl 27 (by decide) (hC.2.2.1 _ wf_M_72) rfl hdg kk
theorem gM_gave (hC : mX D k p s m args c cc nL) (hH : mG D k y A H0 H locs) (hdg : decode cc pc = .ok (.getfield 75, 3)) (kk : W p l e R s m args below meth c H locs cells slots Q (F0 m (pc + 3) ls (.ref (mA k 28) :: rest))) : W p l e R s m args below meth c H locs cells slots Q (F0 m pc ls (.ref (mO k) :: rest)) := by
  obtain ⟨LL, f, hI, hP, hD, hS⟩ := hH
  exact pw_get hC.1 hC.2.1 hC.2.2.1 inX4 hC.2.2.2.1 hC.2.2.2.2.1 hP hI.1.1 hI.1.2 rfl 28 (by decide) (hC.2.2.1 _ wf_M_75) rfl hdg kk
theorem pM_clock (hC : mX D k p s m args c cc nL) (hH : mG D k y A H0 H locs) {v : Int32} (hdg : decode cc pc = .ok (.putfield 134, 3)) (kk : ∀ (H1 : Heap) (locs1 : List Loc), mG D k (sYcl y v) A H0 H1 locs1 → W p l e R s m args below meth c H1 locs1 cells slots Q (F0 m (pc + 3) ls rest)) : W p l e R s m args below meth c H locs cells slots Q (F0 m pc ls (.int v :: .ref (mO k) :: rest)) := by
  obtain ⟨LL, f, hI, hP, hD, hS⟩ := hH
  exact pw_put hC.1 hC.2.1 hC.2.2.1 inX4 tyX4 tyX4_ok nmX4 hC.2.2.2.1 hC.2.2.2.2.1 hP hD hS hI.1.1 hI.1.2 rfl 3 (by decide) (hC.2.2.1 _ wf_M_134) rfl rfl rfl (Nat.le_of_ble_eq_true rfl) hdg (fun H1 locs1 h1 h2 h3 => kk H1 locs1 ⟨LL, _, mJ.obj hI rfl rfl, h1, h2, h3⟩)
theorem pM_tools (hC : mX D k p s m args c cc nL) (hH : mG D k y A H0 H locs) {v : Nat} (hdg : decode cc pc = .ok (.putfield 93, 3)) (kk : ∀ (H1 : Heap) (locs1 : List Loc), mG D k (sYT y v) A H0 H1 locs1 → W p l e R s m args below meth c H1 locs1 cells slots Q (F0 m (pc + 3) ls rest)) : W p l e R s m args below meth c H locs cells slots Q (F0 m pc ls (.int (nI v) :: .ref (mO k) :: rest)) := by
  obtain ⟨LL, f, hI, hP, hD, hS⟩ := hH
  exact pw_put hC.1 hC.2.1 hC.2.2.1 inX4 tyX4 tyX4_ok nmX4 hC.2.2.2.1 hC.2.2.2.2.1 hP hD hS hI.1.1 hI.1.2 rfl 4 (by decide) (hC.2.2.1 _ wf_M_93) rfl rfl rfl (Nat.le_of_ble_eq_true rfl) hdg (fun H1 locs1 h1 h2 h3 => kk H1 locs1 ⟨LL, _, mJ.obj hI rfl rfl, h1, h2, h3⟩)
theorem pM_workers (hC : mX D k p s m args c cc nL) (hH : mG D k y A H0 H locs) {v : Nat} (hdg : decode cc pc = .ok (.putfield 107, 3)) (kk : ∀ (H1 : Heap) (locs1 : List Loc), mG D k (sYW y v) A H0 H1 locs1 → W p l e R s m args below meth c H1 locs1 cells slots Q (F0 m (pc + 3) ls rest)) : W p l e R s m args below meth c H locs cells slots Q (F0 m pc ls (.int (nI v) :: .ref (mO k) :: rest)) := by
  obtain ⟨LL, f, hI, hP, hD, hS⟩ := hH
  exact pw_put hC.1 hC.2.1 hC.2.2.1 inX4 tyX4 tyX4_ok nmX4 hC.2.2.2.1 hC.2.2.2.2.1 hP hD hS hI.1.1 hI.1.2 rfl 5 (by decide) (hC.2.2.1 _ wf_M_107) rfl rfl rfl (Nat.le_of_ble_eq_true rfl) hdg (fun H1 locs1 h1 h2 h3 => kk H1 locs1 ⟨LL, _, mJ.obj hI rfl rfl, h1, h2, h3⟩)
theorem pM_requests (hC : mX D k p s m args c cc nL) (hH : mG D k y A H0 H locs) {v : Nat} (hdg : decode cc pc = .ok (.putfield 100, 3)) (kk : ∀ (H1 : Heap) (locs1 : List Loc), mG D k (sYR y v) A H0 H1 locs1 → W p l e R s m args below meth c H1 locs1 cells slots Q (F0 m (pc + 3) ls rest)) : W p l e R s m args below meth c H locs cells slots Q (F0 m pc ls (.int (nI v) :: .ref (mO k) :: rest)) := by
  obtain ⟨LL, f, hI, hP, hD, hS⟩ := hH
  exact pw_put hC.1 hC.2.1 hC.2.2.1 inX4 tyX4 tyX4_ok nmX4 hC.2.2.2.1 hC.2.2.2.2.1 hP hD hS hI.1.1 hI.1.2 rfl 6 (by decide) (hC.2.2.1 _ wf_M_100) rfl rfl rfl (Nat.le_of_ble_eq_true rfl) hdg (fun H1 locs1 h1 h2 h3 => kk H1 locs1 ⟨LL, _, mJ.obj hI rfl rfl, h1, h2, h3⟩)
theorem aM_i (hC : mX D k p s m args c cc nL) (hH : mG D k y A H0 H locs) {j i : Nat} (hj : 7 ≤ j ∧ j < 29 ∧ mTy j = .int) (hi : i < mLen j) (hdg : decode cc pc = .ok (.iaload, 1)) (kk : W p l e R s m args below meth c H locs cells slots Q (F0 m (pc + 1) ls (.int (MI y j i) :: rest))) : W p l e R s m args below meth c H locs cells slots Q (F0 m pc ls (.int (nI i) :: .ref (mA k j) :: rest)) := by
  obtain ⟨LL, f, hI, hP, hD, hS⟩ := hH
  have hj1 := hI.2.1 j hj.1 hj.2.1
  have ht := mk_at k hj.1 hj.2.1
  have hi2 : i < 2 ^ 31 := Nat.lt_of_lt_of_le hi (by unfold mLen; split; decide; split <;> decide)
  have hi3 : mLen j < 2 ^ 31 := by unfold mLen; split; decide; split <;> decide
  rw [hj.2.2] at ht
  refine pw_iald hC.1 hC.2.1 hC.2.2.2.2.1 hP (j - 7) hj1.1 (hj1.2.trans (mE_i (by rw [hj.2.2]; decide))) ht (vp_in_nI hi hi3) hdg ?_
  rw [nI_clamp hi2]
  exact kk
theorem aM_z (hC : mX D k p s m args c cc nL) (hH : mG D k y A H0 H locs) {j i : Nat} (hj : 7 ≤ j ∧ j < 29 ∧ mTy j = .boolean) (hi : i < mLen j) (hdg : decode cc pc = .ok (.baload, 1)) (kk : W p l e R s m args below meth c H locs cells slots Q (F0 m (pc + 1) ls (.int (MI y j i) :: rest))) : W p l e R s m args below meth c H locs cells slots Q (F0 m pc ls (.int (nI i) :: .ref (mA k j) :: rest)) := by
  obtain ⟨LL, f, hI, hP, hD, hS⟩ := hH
  have hj1 := hI.2.1 j hj.1 hj.2.1
  have ht := mk_at k hj.1 hj.2.1
  have hi2 : i < 2 ^ 31 := Nat.lt_of_lt_of_le hi (by unfold mLen; split; decide; split <;> decide)
  have hi3 : mLen j < 2 ^ 31 := by unfold mLen; split; decide; split <;> decide
  rw [hj.2.2] at ht
  refine pw_zald hC.1 hC.2.1 hC.2.2.2.2.1 hP (j - 7) hj1.1 (hj1.2.trans (mE_i (by rw [hj.2.2]; decide))) ht (vp_in_nI hi hi3) hdg ?_
  rw [nI_clamp hi2]
  exact kk
theorem aM_l (hC : mX D k p s m args c cc nL) (hH : mG D k y A H0 H locs) {j i : Nat} (hj : 7 ≤ j ∧ j < 29 ∧ mTy j = .long) (hi : i < mLen j) (hdg : decode cc pc = .ok (.laload, 1)) (kk : W p l e R s m args below meth c H locs cells slots Q (F0 m (pc + 1) ls (.long (ML y j i) :: rest))) : W p l e R s m args below meth c H locs cells slots Q (F0 m pc ls (.int (nI i) :: .ref (mA k j) :: rest)) := by
  obtain ⟨LL, f, hI, hP, hD, hS⟩ := hH
  have hj1 := hI.2.1 j hj.1 hj.2.1
  have ht := mk_at k hj.1 hj.2.1
  have hi2 : i < 2 ^ 31 := Nat.lt_of_lt_of_le hi (by unfold mLen; split; decide; split <;> decide)
  have hi3 : mLen j < 2 ^ 31 := by unfold mLen; split; decide; split <;> decide
  rw [hj.2.2] at ht
  refine pw_lald hC.1 hC.2.1 hC.2.2.2.2.1 hP (j - 7) hj1.1 (hj1.2.trans (mE_l hj.2.2)) ht (vp_in_nI hi hi3) hdg ?_
  rw [nI_clamp hi2]
  exact kk
theorem sM_i (hC : mX D k p s m args c cc nL) (hH : mG D k y A H0 H locs) {j i : Nat} {x : Int32} (hj : 7 ≤ j ∧ j < 29 ∧ mTy j = .int) (hi : i < mLen j) (hdg : decode cc pc = .ok (.iastore, 1)) (kk : ∀ (H1 : Heap) (locs1 : List Loc), mG D k (sMI y j i x) A H0 H1 locs1 → W p l e R s m args below meth c H1 locs1 cells slots Q (F0 m (pc + 1) ls rest)) : W p l e R s m args below meth c H locs cells slots Q (F0 m pc ls (.int x :: .int (nI i) :: .ref (mA k j) :: rest)) := by
  obtain ⟨LL, f, hI, hP, hD, hS⟩ := hH
  have hj1 := hI.2.1 j hj.1 hj.2.1
  have ht := mk_at k hj.1 hj.2.1
  have hi2 : i < 2 ^ 31 := Nat.lt_of_lt_of_le hi (by unfold mLen; split; decide; split <;> decide)
  have hi3 : mLen j < 2 ^ 31 := by unfold mLen; split; decide; split <;> decide
  rw [hj.2.2] at ht
  refine pw_iast hC.1 hC.2.1 hC.2.2.2.2.1 hP hD hS (j - 7) hj1.1 (hj1.2.trans (mE_i (by rw [hj.2.2]; decide))) ht (vp_in_nI hi hi3) hdg (fun H1 locs1 h1 h2 h3 => ?_)
  rw [nI_clamp hi2] at h1 h2
  have hJ : mJ k (sMI y j i x) LL _ := mJ.arr (y' := sMI y j i x) hI hj.1 hj.2.1 rfl (fun b hb => va_up_ne _ _ hb) (fun b hb => rfl)
  rw [show mE (k.2.2 j) (sMI y j i x) j = _ from (mE_i (by rw [hj.2.2]; decide))] at hJ
  have e1 : MI (sMI y j i x) j = _ := va_up_self _ _ _
  rw [e1] at hJ
  exact kk H1 locs1 ⟨LL, _, hJ, h1, h2, h3⟩
theorem sM_z (hC : mX D k p s m args c cc nL) (hH : mG D k y A H0 H locs) {j i : Nat} {x : Int32} (hx : vp_nar .boolean x = x) (hj : 7 ≤ j ∧ j < 29 ∧ mTy j = .boolean) (hi : i < mLen j) (hdg : decode cc pc = .ok (.bastore, 1)) (kk : ∀ (H1 : Heap) (locs1 : List Loc), mG D k (sMI y j i x) A H0 H1 locs1 → W p l e R s m args below meth c H1 locs1 cells slots Q (F0 m (pc + 1) ls rest)) : W p l e R s m args below meth c H locs cells slots Q (F0 m pc ls (.int x :: .int (nI i) :: .ref (mA k j) :: rest)) := by
  obtain ⟨LL, f, hI, hP, hD, hS⟩ := hH
  have hj1 := hI.2.1 j hj.1 hj.2.1
  have ht := mk_at k hj.1 hj.2.1
  have hi2 : i < 2 ^ 31 := Nat.lt_of_lt_of_le hi (by unfold mLen; split; decide; split <;> decide)
  have hi3 : mLen j < 2 ^ 31 := by unfold mLen; split; decide; split <;> decide
  rw [hj.2.2] at ht
  refine pw_zast hC.1 hC.2.1 hC.2.2.2.2.1 hP hD hS (j - 7) hj1.1 (hj1.2.trans (mE_i (by rw [hj.2.2]; decide))) ht (vp_in_nI hi hi3) hdg (fun H1 locs1 h1 h2 h3 => ?_)
  rw [nI_clamp hi2, hx] at h1 h2
  have hJ : mJ k (sMI y j i x) LL _ := mJ.arr (y' := sMI y j i x) hI hj.1 hj.2.1 rfl (fun b hb => va_up_ne _ _ hb) (fun b hb => rfl)
  rw [show mE (k.2.2 j) (sMI y j i x) j = _ from (mE_i (by rw [hj.2.2]; decide))] at hJ
  have e1 : MI (sMI y j i x) j = _ := va_up_self _ _ _
  rw [e1] at hJ
  exact kk H1 locs1 ⟨LL, _, hJ, h1, h2, h3⟩
theorem sM_l (hC : mX D k p s m args c cc nL) (hH : mG D k y A H0 H locs) {j i : Nat} {x : Int64} (hj : 7 ≤ j ∧ j < 29 ∧ mTy j = .long) (hi : i < mLen j) (hdg : decode cc pc = .ok (.lastore, 1)) (kk : ∀ (H1 : Heap) (locs1 : List Loc), mG D k (sML y j i x) A H0 H1 locs1 → W p l e R s m args below meth c H1 locs1 cells slots Q (F0 m (pc + 1) ls rest)) : W p l e R s m args below meth c H locs cells slots Q (F0 m pc ls (.long x :: .int (nI i) :: .ref (mA k j) :: rest)) := by
  obtain ⟨LL, f, hI, hP, hD, hS⟩ := hH
  have hj1 := hI.2.1 j hj.1 hj.2.1
  have ht := mk_at k hj.1 hj.2.1
  have hi2 : i < 2 ^ 31 := Nat.lt_of_lt_of_le hi (by unfold mLen; split; decide; split <;> decide)
  have hi3 : mLen j < 2 ^ 31 := by unfold mLen; split; decide; split <;> decide
  rw [hj.2.2] at ht
  refine pw_last hC.1 hC.2.1 hC.2.2.2.2.1 hP hD hS (j - 7) hj1.1 (hj1.2.trans (mE_l hj.2.2)) ht (vp_in_nI hi hi3) hdg (fun H1 locs1 h1 h2 h3 => ?_)
  rw [nI_clamp hi2] at h1 h2
  have hJ : mJ k (sML y j i x) LL _ := mJ.arr (y' := sML y j i x) hI hj.1 hj.2.1 rfl (fun b hb => rfl) (fun b hb => va_up_ne _ _ hb)
  rw [show mE (k.2.2 j) (sML y j i x) j = _ from (mE_l hj.2.2)] at hJ
  have e1 : ML (sML y j i x) j = _ := va_up_self _ _ _
  rw [e1] at hJ
  exact kk H1 locs1 ⟨LL, _, hJ, h1, h2, h3⟩
end MR
end
section
theorem i_m1 (a : Int32) : a + Int32.ofInt (-1) = a - 1 := by
  rw [Int32.sub_eq_add_neg]
  exact congrArg (fun z => a + z) (by decide)
section M1
variable {l : Launch} {D : va_G} {k : mk_F} {y : ms_S} {LL : List Nat} {f : Nat → va_E} {sz : Nat}
def yAns (y : ms_S) (j : Nat) (v : Int64) : ms_S := sML (sMI y 21 j 2) 28 j v
def yLet (y : ms_S) (j : Nat) : ms_S := if MI y 25 j = 0 then sMI y 22 j (-1) else sMI (sMI (sMI y 22 j (-1)) 25 j 0) 21 j 3
def yWai (y : ms_S) (j : Nat) : ms_S := if MI y 25 j = 0 then sMI (sMI y 22 j (-1)) 21 j 0 else yLet y j
def yEnd (y : ms_S) (i : Nat) (r : Int32) : ms_S := sMI (sMI (sMI y 11 i 2) 15 i r) 14 i (-1)
def yNew (y : ms_S) (t : Nat) : ms_S := sYW (sML (sMI y 10 (yW y) (nI t)) 18 (yW y) (ML y 7 t)) (yW y + 1)
def yFr (y : ms_S) (v : Int32) : Nat → Int32 → Int32
  | 0, a => a
  | n + 1, a => yFr y v n (if MI y 10 n = v ∧ MI y 11 n = 0 then nI n else a)
def yAl (y : ms_S) (v : Int32) : Nat → Int32
  | 0 => 0
  | n + 1 => if MI y 10 n = v ∧ ¬ MI y 11 n = 2 then yAl y v n + 1 else yAl y v n
def zBtw (v lo hi : Int32) : Int32 := if lo ≤ v then (if v ≤ hi then v else hi) else lo
set_option maxHeartbeats 600000 in
set_option maxRecDepth 100000 in
theorem m_between (v lo hi : Int32) : Met l yM_between (wz yM_between bM_between 3 (some .int)) (rmL 0 0 0) (fun q _ => q = ([.int v, .int lo, .int hi] : List Value).toArray) (vp_Si (fun r => r = zBtw v lo hi)) 0 0 (fun _ => False) := by
  refine gMetS (own := RX4) (by decide) rfl (Nat.le_of_ble_eq_true rfl) ?_
  intro p e s m below meth c ls hx hb hts hown hml hr hlk hl
  have hl : lv_has ls 3 [(0, _), (1, _), (2, _)] := hl
  refine lv_iload_n hx hb dM_between_0 rfl (lv_at hl 0 rfl) ?_
  refine lv_iload_n hx hb dM_between_1 rfl (lv_at hl 1 rfl) ?_
  refine lv_icmp_ge  (tgt := 9) hx hb dM_between_2 (by decide) (fun h => ?_) (fun h => ?_)
  · refine lv_iload_n hx hb dM_between_9 rfl (lv_at hl 0 rfl) ?_
    refine lv_iload_n hx hb dM_between_10 rfl (lv_at hl 2 rfl) ?_
    refine lv_icmp_le  (tgt := 18) hx hb dM_between_11 (by decide) (fun h2 => ?_) (fun h2 => ?_)
    · refine lv_iload_n hx hb dM_between_18 rfl (lv_at hl 0 rfl) ?_
      exact W.zret hx hb hr rfl (fun t ht hW => ⟨_, rfl, by simp only [zBtw]; rw [if_pos h, if_pos h2], ht⟩) (fun q h => by cases h) dM_between_19
    · refine lv_iload_n hx hb dM_between_14 rfl (lv_at hl 2 rfl) ?_
      refine lv_goto (tgt := 19) hx hb dM_between_15 (by decide) ?_
      exact W.zret hx hb hr rfl (fun t ht hW => ⟨_, rfl, by simp only [zBtw]; rw [if_pos h, if_neg h2], ht⟩) (fun q h => by cases h) dM_between_19
  · refine lv_iload_n hx hb dM_between_5 rfl (lv_at hl 1 rfl) ?_
    refine lv_goto (tgt := 19) hx hb dM_between_6 (by decide) ?_
    exact W.zret hx hb hr rfl (fun t ht hW => ⟨_, rfl, by simp only [zBtw]; rw [if_neg h], ht⟩) (fun q h => by cases h) dM_between_19
set_option maxHeartbeats 600000 in
set_option maxRecDepth 100000 in
theorem m_in (v : Int32) (n : Nat) (hn : n ≤ 100) : Met l yM_in (wz yM_in bM_in 2 (some .boolean)) (rmL 0 0 0) (fun q _ => q = ([.int v, .int (nI n)] : List Value).toArray) (vp_Si (fun r => (∃ i : Nat, i < n ∧ v = nI i ∧ r = 1) ∨ ((∀ i : Nat, i < n → v ≠ nI i) ∧ r = 0))) 0 0 (fun _ => False) := by
  refine gMetS (own := RX4) (by decide) rfl (Nat.le_of_ble_eq_true rfl) ?_
  intro p e s m below meth c ls hx hb hts hown hml hr hlk hl
  have hl : lv_has ls 2 [(0, _), (1, _)] := hl
  refine lv_iload_n hx hb dM_in_0 rfl (lv_at hl 0 rfl) ?_
  refine lv_if_lt  (tgt := 13) hx hb dM_in_1 (by decide) (fun h => ?_) (fun h => ?_)
  · refine lv_iconst (v := 0) hx hb dM_in_13 (by decide) ?_
    exact W.zret hx hb hr rfl (fun t ht hW => ⟨_, rfl, Or.inr ⟨fun i hi q => nI_pos (n := i) (by omega) (q ▸ h), rfl⟩, ht⟩) (fun q h => by cases h) dM_in_14
  · refine lv_iload_n hx hb dM_in_4 rfl (lv_at hl 0 rfl) ?_
    refine lv_iload_n hx hb dM_in_5 rfl (lv_at hl 1 rfl) ?_
    refine lv_icmp_ge  (tgt := 13) hx hb dM_in_6 (by decide) (fun h2 => ?_) (fun h2 => ?_)
    · refine lv_iconst (v := 0) hx hb dM_in_13 (by decide) ?_
      exact W.zret hx hb hr rfl (fun t ht hW => ⟨_, rfl, Or.inr ⟨fun i hi q => nI_ge hi (by omega) (q ▸ h2), rfl⟩, ht⟩) (fun q h => by cases h) dM_in_14
    · obtain ⟨i, hi, hv⟩ : ∃ i : Nat, i < n ∧ v = nI i := by
        rcases pk_ix v (n := n) (by omega) with q | q | q
        · exact absurd q h
        · exact absurd q h2
        · exact q
      refine lv_iconst (v := 1) hx hb dM_in_9 (by decide) ?_
      refine lv_goto (tgt := 14) hx hb dM_in_10 (by decide) ?_
      exact W.zret hx hb hr rfl (fun t ht hW => ⟨_, rfl, Or.inl ⟨i, hi, hv, rfl⟩, ht⟩) (fun q h => by cases h) dM_in_14
set_option maxHeartbeats 600000 in
set_option maxRecDepth 100000 in
theorem m_oneShot (hI : mJ k y LL f) (a b : Int64) : Met l yM_oneShot (wz yM_oneShot bM_oneShot 8 (some .long)) (rmL 0 0 0) (gP D (mk_tys k) LL f sz [.ref (mO k), .long a, .long b]) (vp_Sl (fun r => r = os a b)) 0 0 (fun _ => False) := by
  refine gMetR (own := RX4) (u := y) (by decide) rfl hI (Nat.le_of_ble_eq_true rfl) ?_
  intro p e s m below meth c ls hC hr hlk hH hl
  have hx := hC.1
  have hb := hC.2.1
  have hml := hC.2.2.2.2.2
  have hts := hC.2.2.1
  have hown := hC.2.2.2.1
  have hl : lv_has ls 8 [(0, _), (1, _), (3, _)] := hl
  refine lv_lload_n hx hb dM_oneShot_0 rfl (lv_at hl 1 rfl) ?_
  refine lv_lload_n hx hb dM_oneShot_1 rfl (lv_at hl 2 rfl) ?_
  refine lv_lxor hx hb dM_oneShot_2 ?_
  refine lv_lstore hx hb dM_oneShot_3 hl (by decide) rfl (fun ls hl => ?_)
  have hl : lv_has ls 8 [(5, _), (0, _), (1, _), (3, _)] := hl
  refine lv_iconst (v := 0) hx hb dM_oneShot_5 (by decide) ?_
  refine lv_istore hx hb dM_oneShot_6 hl (by decide) rfl (fun ls hl => ?_)
  have hl : lv_has ls 8 [(7, _), (5, _), (0, _), (1, _), (3, _)] := hl
  refine lv_iload hx hb dM_oneShot_8 (lv_at hl 0 rfl) ?_
  refine lv_iconst (v := 2) hx hb dM_oneShot_10 (by decide) ?_
  refine lv_icmp_ge  (tgt := 34) hx hb dM_oneShot_11 (by decide) (fun h => ?_) (fun h => ?_)
  · exact absurd h (by decide)
  refine lv_lload hx hb dM_oneShot_14 (lv_at hl 1 rfl) ?_
  refine lv_lload hx hb dM_oneShot_16 (lv_at hl 1 rfl) ?_
  refine lv_bipush (v := 31) hx hb dM_oneShot_18 (by decide) ?_
  refine lv_lushr hx hb dM_oneShot_20 rfl ?_
  refine lv_lxor hx hb dM_oneShot_21 ?_
  refine lv_ldc2 hx hb hown (hts _ wq_M_149) dM_oneShot_22 ?_
  refine lv_lmul hx hb dM_oneShot_25 ?_
  refine lv_lstore hx hb dM_oneShot_26 hl (by decide) rfl (fun ls hl => ?_)
  have hl : lv_has ls 8 [(5, _), (7, _), (0, _), (1, _), (3, _)] := hl
  refine lv_iinc hx hb dM_oneShot_28 hl (k := 1) rfl rfl (by decide) rfl (fun ls hl => ?_)
  have hl : lv_has ls 8 [(7, _), (5, _), (0, _), (1, _), (3, _)] := hl
  refine lv_goto (tgt := 8) hx hb dM_oneShot_31 (by decide) ?_
  refine lv_iload hx hb dM_oneShot_8 (lv_at hl 0 rfl) ?_
  refine lv_iconst (v := 2) hx hb dM_oneShot_10 (by decide) ?_
  refine lv_icmp_ge  (tgt := 34) hx hb dM_oneShot_11 (by decide) (fun h => ?_) (fun h => ?_)
  · exact absurd h (by decide)
  refine lv_lload hx hb dM_oneShot_14 (lv_at hl 1 rfl) ?_
  refine lv_lload hx hb dM_oneShot_16 (lv_at hl 1 rfl) ?_
  refine lv_bipush (v := 31) hx hb dM_oneShot_18 (by decide) ?_
  refine lv_lushr hx hb dM_oneShot_20 rfl ?_
  refine lv_lxor hx hb dM_oneShot_21 ?_
  refine lv_ldc2 hx hb hown (hts _ wq_M_149) dM_oneShot_22 ?_
  refine lv_lmul hx hb dM_oneShot_25 ?_
  refine lv_lstore hx hb dM_oneShot_26 hl (by decide) rfl (fun ls hl => ?_)
  have hl : lv_has ls 8 [(5, _), (7, _), (0, _), (1, _), (3, _)] := hl
  refine lv_iinc hx hb dM_oneShot_28 hl (k := 1) rfl rfl (by decide) rfl (fun ls hl => ?_)
  have hl : lv_has ls 8 [(7, _), (5, _), (0, _), (1, _), (3, _)] := hl
  refine lv_goto (tgt := 8) hx hb dM_oneShot_31 (by decide) ?_
  refine lv_iload hx hb dM_oneShot_8 (lv_at hl 0 rfl) ?_
  refine lv_iconst (v := 2) hx hb dM_oneShot_10 (by decide) ?_
  refine lv_icmp_ge  (tgt := 34) hx hb dM_oneShot_11 (by decide) (fun h => ?_) (fun h => ?_)
  · refine lv_lload hx hb dM_oneShot_34 (lv_at hl 1 rfl) ?_
    refine lv_lload_n hx hb dM_oneShot_36 rfl (lv_at hl 4 rfl) ?_
    refine lv_ladd hx hb dM_oneShot_37 ?_
    exact grSl hC hr hlk rfl dM_oneShot_38
  · exact absurd h (by decide)
set_option maxHeartbeats 600000 in
set_option maxRecDepth 100000 in
theorem m_answers (hI : mJ k y LL f) {j : Nat} (hj : j < 100) (v : Int64) : Met l yM_answers (wz yM_answers bM_answers 4 none) (rmL 0 0 0) (gP D (mk_tys k) LL f sz [.ref (mO k), .int (nI j), .long v]) (va_Qv (fun u => u = yAns y j v) (gB D (mk_tys k) (mJ k) (va_A (va_pl LL f) sz)) (va_A (va_pl LL f) sz)) 0 0 (va_A (va_pl LL f) sz) := by
  refine gMet (own := RX4) (u := y) (Qc := fun A => va_Qv (fun u => u = yAns y j v) (gB D (mk_tys k) (mJ k) A) A) (by decide) rfl hI (Nat.le_of_ble_eq_true rfl) ?_
  intro p e s m below meth c ls A hC hr hlk hnm hA hH hl
  have hx := hC.1
  have hb := hC.2.1
  have hml := hC.2.2.2.2.2
  have hts := hC.2.2.1
  have hown := hC.2.2.2.1
  have hl : lv_has ls 4 [(0, _), (1, _), (2, _)] := hl
  first | refine lv_aload_n hx hb dM_answers_0 rfl (lv_at hl 0 rfl) ?_ | refine lv_aload_nN hx hb dM_answers_0 rfl (lv_at hl 0 rfl) ?_
  refine gM_kind hC hH dM_answers_1 ?_
  refine lv_iload_n hx hb dM_answers_4 rfl (lv_at hl 1 rfl) ?_
  refine lv_iconst (v := 2) hx hb dM_answers_5 (by decide) ?_
  refine sM_i hC hH (by decide) (by assumption) dM_answers_6 (fun H locs hH => ?_)
  first | refine lv_aload_n hx hb dM_answers_7 rfl (lv_at hl 0 rfl) ?_ | refine lv_aload_nN hx hb dM_answers_7 rfl (lv_at hl 0 rfl) ?_
  refine gM_gave hC hH dM_answers_8 ?_
  refine lv_iload_n hx hb dM_answers_11 rfl (lv_at hl 1 rfl) ?_
  refine lv_lload_n hx hb dM_answers_12 rfl (lv_at hl 2 rfl) ?_
  refine sM_l hC hH (by decide) (by assumption) dM_answers_13 (fun H locs hH => ?_)
  exact grWv hC hr hlk hH rfl dM_answers_14
set_option maxHeartbeats 600000 in
set_option maxRecDepth 100000 in
theorem m_lets (hI : mJ k y LL f) {j : Nat} (hj : j < 100) : Met l yM_lets (wz yM_lets bM_lets 2 (some .boolean)) (rmL 0 0 0) (gP D (mk_tys k) LL f sz [.ref (mO k), .int (nI j)]) (va_Qi (fun (r : Int32) (u : ms_S) => u = yLet y j ∧ r = if MI y 25 j = 0 then 0 else 1) (gB D (mk_tys k) (mJ k) (va_A (va_pl LL f) sz)) (va_A (va_pl LL f) sz)) 0 0 (va_A (va_pl LL f) sz) := by
  refine gMet (own := RX4) (u := y) (Qc := fun A => va_Qi (fun (r : Int32) (u : ms_S) => u = yLet y j ∧ r = if MI y 25 j = 0 then 0 else 1) (gB D (mk_tys k) (mJ k) A) A) (by decide) rfl hI (Nat.le_of_ble_eq_true rfl) ?_
  intro p e s m below meth c ls A hC hr hlk hnm hA hH hl
  have hx := hC.1
  have hb := hC.2.1
  have hml := hC.2.2.2.2.2
  have hts := hC.2.2.1
  have hown := hC.2.2.2.1
  have hl : lv_has ls 2 [(0, _), (1, _)] := hl
  first | refine lv_aload_n hx hb dM_lets_0 rfl (lv_at hl 0 rfl) ?_ | refine lv_aload_nN hx hb dM_lets_0 rfl (lv_at hl 0 rfl) ?_
  refine gM_by hC hH dM_lets_1 ?_
  refine lv_iload_n hx hb dM_lets_4 rfl (lv_at hl 1 rfl) ?_
  refine lv_iconst (v := -1) hx hb dM_lets_5 (by decide) ?_
  refine sM_i hC hH (by decide) (by assumption) dM_lets_6 (fun H locs hH => ?_)
  first | refine lv_aload_n hx hb dM_lets_7 rfl (lv_at hl 0 rfl) ?_ | refine lv_aload_nN hx hb dM_lets_7 rfl (lv_at hl 0 rfl) ?_
  refine gM_isUnwanted hC hH dM_lets_8 ?_
  refine lv_iload_n hx hb dM_lets_11 rfl (lv_at hl 1 rfl) ?_
  refine aM_z hC hH (by decide) (by assumption) dM_lets_12 ?_
  have e1 : MI (sMI y 22 j (-1)) 25 j = MI y 25 j := by rw [MI_sMI]; exact if_neg (fun q => absurd q.1 (by decide))
  refine lv_if_ne  (tgt := 18) hx hb dM_lets_13 (by decide) (fun h => ?_) (fun h => ?_)
  · rw [e1] at h
    first | refine lv_aload_n hx hb dM_lets_18 rfl (lv_at hl 0 rfl) ?_ | refine lv_aload_nN hx hb dM_lets_18 rfl (lv_at hl 0 rfl) ?_
    refine gM_isUnwanted hC hH dM_lets_19 ?_
    refine lv_iload_n hx hb dM_lets_22 rfl (lv_at hl 1 rfl) ?_
    refine lv_iconst (v := 0) hx hb dM_lets_23 (by decide) ?_
    refine sM_z hC hH rfl (by decide) (by assumption) dM_lets_24 (fun H locs hH => ?_)
    first | refine lv_aload_n hx hb dM_lets_25 rfl (lv_at hl 0 rfl) ?_ | refine lv_aload_nN hx hb dM_lets_25 rfl (lv_at hl 0 rfl) ?_
    refine gM_kind hC hH dM_lets_26 ?_
    refine lv_iload_n hx hb dM_lets_29 rfl (lv_at hl 1 rfl) ?_
    refine lv_iconst (v := 3) hx hb dM_lets_30 (by decide) ?_
    refine sM_i hC hH (by decide) (by assumption) dM_lets_31 (fun H locs hH => ?_)
    refine lv_iconst (v := 1) hx hb dM_lets_32 (by decide) ?_
    exact grWi hC hr hlk rfl hH ⟨by rw [yLet, if_neg h], (if_neg h).symm⟩ dM_lets_33
  · rw [e1] at h
    refine lv_iconst (v := 0) hx hb dM_lets_16 (by decide) ?_
    exact grWi hC hr hlk rfl hH ⟨by rw [yLet, if_pos h], (if_pos h).symm⟩ dM_lets_17
set_option maxHeartbeats 600000 in
set_option maxRecDepth 100000 in
theorem m_waitsAgain (hI : mJ k y LL f) {j : Nat} (hj : j < 100) : Met l yM_waitsAgain (wz yM_waitsAgain bM_waitsAgain 2 none) (rmL 1 0 0) (gP D (mk_tys k) LL f sz [.ref (mO k), .int (nI j)]) (va_Qv (fun u => u = yWai y j) (gB D (mk_tys k) (mJ k) (va_A (va_pl LL f) sz)) (va_A (va_pl LL f) sz)) 0 0 (va_A (va_pl LL f) sz) := by
  refine gMet (own := RX4) (u := y) (Qc := fun A => va_Qv (fun u => u = yWai y j) (gB D (mk_tys k) (mJ k) A) A) (by decide) rfl hI (Nat.le_of_ble_eq_true rfl) ?_
  intro p e s m below meth c ls A hC hr hlk hnm hA hH hl
  have hx := hC.1
  have hb := hC.2.1
  have hml := hC.2.2.2.2.2
  have hts := hC.2.2.1
  have hown := hC.2.2.2.1
  have hl : lv_has ls 2 [(0, _), (1, _)] := hl
  first | refine lv_aload_n hx hb dM_waitsAgain_0 rfl (lv_at hl 0 rfl) ?_ | refine lv_aload_nN hx hb dM_waitsAgain_0 rfl (lv_at hl 0 rfl) ?_
  refine lv_iload_n hx hb dM_waitsAgain_1 rfl (lv_at hl 1 rfl) ?_
  refine gcWVi hC hl.1 hA hH (fun LL f sz hI => m_lets hI hj) mJ.o rfl rfl kM_103 ⟨Nat.le_of_ble_eq_true rfl, Nat.le_of_ble_eq_true rfl⟩ dM_waitsAgain_2 ⟨Nat.le_of_ble_eq_true rfl, Nat.le_of_ble_eq_true rfl⟩ rfl (Nat.le_of_ble_eq_true rfl) (fun r u H locs hp hH => ?_)
  obtain ⟨hp1, hp2⟩ := hp
  refine lv_if_ne  (tgt := 15) hx hb dM_waitsAgain_5 (by decide) (fun h => ?_) (fun h => ?_)
  · have h2 : ¬ MI y 25 j = 0 := fun q => h (by rw [hp2, if_pos q])
    exact grWv hC hr hlk hH (by rw [hp1, yWai, if_neg h2]) dM_waitsAgain_15
  · have h2 : MI y 25 j = 0 := Classical.byContradiction (fun q => by rw [hp2, if_neg q] at h; exact absurd h (by decide))
    first | refine lv_aload_n hx hb dM_waitsAgain_8 rfl (lv_at hl 0 rfl) ?_ | refine lv_aload_nN hx hb dM_waitsAgain_8 rfl (lv_at hl 0 rfl) ?_
    refine gM_kind hC hH dM_waitsAgain_9 ?_
    refine lv_iload_n hx hb dM_waitsAgain_12 rfl (lv_at hl 1 rfl) ?_
    refine lv_iconst (v := 0) hx hb dM_waitsAgain_13 (by decide) ?_
    refine sM_i hC hH (by decide) (by assumption) dM_waitsAgain_14 (fun H locs hH => ?_)
    exact grWv hC hr hlk hH (by rw [hp1, yWai, if_pos h2, yLet, if_pos h2]) dM_waitsAgain_15
set_option maxHeartbeats 600000 in
set_option maxRecDepth 100000 in
theorem m_ends (hI : mJ k y LL f) {i : Nat} (hi : i < 60) (r0 : Int32) : Met l yM_ends (wz yM_ends bM_ends 4 (some .int)) (rmL 0 0 0) (gP D (mk_tys k) LL f sz [.ref (mO k), .int (nI i), .int r0]) (va_Qi (fun (r : Int32) (u : ms_S) => u = yEnd y i r0 ∧ r = MI y 14 i) (gB D (mk_tys k) (mJ k) (va_A (va_pl LL f) sz)) (va_A (va_pl LL f) sz)) 0 0 (va_A (va_pl LL f) sz) := by
  refine gMet (own := RX4) (u := y) (Qc := fun A => va_Qi (fun (r : Int32) (u : ms_S) => u = yEnd y i r0 ∧ r = MI y 14 i) (gB D (mk_tys k) (mJ k) A) A) (by decide) rfl hI (Nat.le_of_ble_eq_true rfl) ?_
  intro p e s m below meth c ls A hC hr hlk hnm hA hH hl
  have hx := hC.1
  have hb := hC.2.1
  have hml := hC.2.2.2.2.2
  have hts := hC.2.2.1
  have hown := hC.2.2.2.1
  have hl : lv_has ls 4 [(0, _), (1, _), (2, _)] := hl
  first | refine lv_aload_n hx hb dM_ends_0 rfl (lv_at hl 0 rfl) ?_ | refine lv_aload_nN hx hb dM_ends_0 rfl (lv_at hl 0 rfl) ?_
  refine gM_busyWith hC hH dM_ends_1 ?_
  refine lv_iload_n hx hb dM_ends_4 rfl (lv_at hl 1 rfl) ?_
  refine aM_i hC hH (by decide) (by assumption) dM_ends_5 ?_
  refine lv_istore_n hx hb dM_ends_6 rfl hl (by decide) rfl (fun ls hl => ?_)
  have hl : lv_has ls 4 [(3, _), (0, _), (1, _), (2, _)] := hl
  first | refine lv_aload_n hx hb dM_ends_7 rfl (lv_at hl 1 rfl) ?_ | refine lv_aload_nN hx hb dM_ends_7 rfl (lv_at hl 1 rfl) ?_
  refine gM_state hC hH dM_ends_8 ?_
  refine lv_iload_n hx hb dM_ends_11 rfl (lv_at hl 2 rfl) ?_
  refine lv_iconst (v := 2) hx hb dM_ends_12 (by decide) ?_
  refine sM_i hC hH (by decide) (by assumption) dM_ends_13 (fun H locs hH => ?_)
  first | refine lv_aload_n hx hb dM_ends_14 rfl (lv_at hl 1 rfl) ?_ | refine lv_aload_nN hx hb dM_ends_14 rfl (lv_at hl 1 rfl) ?_
  refine gM_why hC hH dM_ends_15 ?_
  refine lv_iload_n hx hb dM_ends_18 rfl (lv_at hl 2 rfl) ?_
  refine lv_iload_n hx hb dM_ends_19 rfl (lv_at hl 3 rfl) ?_
  refine sM_i hC hH (by decide) (by assumption) dM_ends_20 (fun H locs hH => ?_)
  first | refine lv_aload_n hx hb dM_ends_21 rfl (lv_at hl 1 rfl) ?_ | refine lv_aload_nN hx hb dM_ends_21 rfl (lv_at hl 1 rfl) ?_
  refine gM_busyWith hC hH dM_ends_22 ?_
  refine lv_iload_n hx hb dM_ends_25 rfl (lv_at hl 2 rfl) ?_
  refine lv_iconst (v := -1) hx hb dM_ends_26 (by decide) ?_
  refine sM_i hC hH (by decide) (by assumption) dM_ends_27 (fun H locs hH => ?_)
  refine lv_iload_n hx hb dM_ends_28 rfl (lv_at hl 0 rfl) ?_
  exact grWi hC hr hlk rfl hH ⟨rfl, rfl⟩ dM_ends_29
set_option maxHeartbeats 600000 in
set_option maxRecDepth 100000 in
theorem m_newOne (hI : mJ k y LL f) {t : Nat} (ht : t < 6) (hw : yW y < 60) : Met l yM_newOne (wz yM_newOne bM_newOne 3 (some .int)) (rmL 0 0 0) (gP D (mk_tys k) LL f sz [.ref (mO k), .int (nI t)]) (va_Qi (fun (r : Int32) (u : ms_S) => u = yNew y t ∧ r = nI (yW y)) (gB D (mk_tys k) (mJ k) (va_A (va_pl LL f) sz)) (va_A (va_pl LL f) sz)) 0 0 (va_A (va_pl LL f) sz) := by
  refine gMet (own := RX4) (u := y) (Qc := fun A => va_Qi (fun (r : Int32) (u : ms_S) => u = yNew y t ∧ r = nI (yW y)) (gB D (mk_tys k) (mJ k) A) A) (by decide) rfl hI (Nat.le_of_ble_eq_true rfl) ?_
  intro p e s m below meth c ls A hC hr hlk hnm hA hH hl
  have hx := hC.1
  have hb := hC.2.1
  have hml := hC.2.2.2.2.2
  have hts := hC.2.2.1
  have hown := hC.2.2.2.1
  have hl : lv_has ls 3 [(0, _), (1, _)] := hl
  first | refine lv_aload_n hx hb dM_newOne_0 rfl (lv_at hl 0 rfl) ?_ | refine lv_aload_nN hx hb dM_newOne_0 rfl (lv_at hl 0 rfl) ?_
  refine gM_workers hC hH dM_newOne_1 ?_
  refine lv_istore_n hx hb dM_newOne_4 rfl hl (by decide) rfl (fun ls hl => ?_)
  have hl : lv_has ls 3 [(2, _), (0, _), (1, _)] := hl
  first | refine lv_aload_n hx hb dM_newOne_5 rfl (lv_at hl 1 rfl) ?_ | refine lv_aload_nN hx hb dM_newOne_5 rfl (lv_at hl 1 rfl) ?_
  refine gM_toolOf hC hH dM_newOne_6 ?_
  refine lv_iload_n hx hb dM_newOne_9 rfl (lv_at hl 0 rfl) ?_
  refine lv_iload_n hx hb dM_newOne_10 rfl (lv_at hl 2 rfl) ?_
  refine sM_i hC hH (by decide) (by assumption) dM_newOne_11 (fun H locs hH => ?_)
  first | refine lv_aload_n hx hb dM_newOne_12 rfl (lv_at hl 1 rfl) ?_ | refine lv_aload_nN hx hb dM_newOne_12 rfl (lv_at hl 1 rfl) ?_
  refine gM_startedWith hC hH dM_newOne_13 ?_
  refine lv_iload_n hx hb dM_newOne_16 rfl (lv_at hl 0 rfl) ?_
  first | refine lv_aload_n hx hb dM_newOne_17 rfl (lv_at hl 1 rfl) ?_ | refine lv_aload_nN hx hb dM_newOne_17 rfl (lv_at hl 1 rfl) ?_
  refine gM_editionOf hC hH dM_newOne_18 ?_
  refine lv_iload_n hx hb dM_newOne_21 rfl (lv_at hl 2 rfl) ?_
  refine aM_l hC hH (by decide) (by assumption) dM_newOne_22 ?_
  refine sM_l hC hH (by decide) (by assumption) dM_newOne_23 (fun H locs hH => ?_)
  first | refine lv_aload_n hx hb dM_newOne_24 rfl (lv_at hl 1 rfl) ?_ | refine lv_aload_nN hx hb dM_newOne_24 rfl (lv_at hl 1 rfl) ?_
  refine lv_dup hx hb dM_newOne_25 rfl ?_
  refine gM_workers hC hH dM_newOne_26 ?_
  refine lv_iconst (v := 1) hx hb dM_newOne_29 (by decide) ?_
  refine lv_iadd hx hb dM_newOne_30 ?_
  rw [nI_1]
  refine pM_workers hC hH dM_newOne_31 (fun H locs hH => ?_)
  refine lv_iload_n hx hb dM_newOne_34 rfl (lv_at hl 0 rfl) ?_
  exact grWi hC hr hlk rfl hH ⟨rfl, rfl⟩ dM_newOne_35
set_option maxHeartbeats 600000 in
set_option maxRecDepth 100000 in
theorem m_isDoneBy (hI : mJ k y LL f) {j : Nat} (hj : j < 100) (v : Int32) : Met l yM_isDoneBy (wz yM_isDoneBy bM_isDoneBy 3 (some .boolean)) (rmL 0 0 0) (gP D (mk_tys k) LL f sz [.ref (mO k), .int (nI j), .int v]) (vp_Si (fun r => r = if MI y 21 j = 2 ∧ MI y 22 j = v then 1 else 0)) 0 0 (fun _ => False) := by
  refine gMetR (own := RX4) (u := y) (by decide) rfl hI (Nat.le_of_ble_eq_true rfl) ?_
  intro p e s m below meth c ls hC hr hlk hH hl
  have hx := hC.1
  have hb := hC.2.1
  have hml := hC.2.2.2.2.2
  have hts := hC.2.2.1
  have hown := hC.2.2.2.1
  have hl : lv_has ls 3 [(0, _), (1, _), (2, _)] := hl
  first | refine lv_aload_n hx hb dM_isDoneBy_0 rfl (lv_at hl 0 rfl) ?_ | refine lv_aload_nN hx hb dM_isDoneBy_0 rfl (lv_at hl 0 rfl) ?_
  refine gM_kind hC hH dM_isDoneBy_1 ?_
  refine lv_iload_n hx hb dM_isDoneBy_4 rfl (lv_at hl 1 rfl) ?_
  refine aM_i hC hH (by decide) (by assumption) dM_isDoneBy_5 ?_
  refine lv_iconst (v := 2) hx hb dM_isDoneBy_6 (by decide) ?_
  refine lv_icmp_ne  (tgt := 24) hx hb dM_isDoneBy_7 (by decide) (fun h => ?_) (fun h => ?_)
  · refine lv_iconst (v := 0) hx hb dM_isDoneBy_24 (by decide) ?_
    exact grSi hC hr hlk rfl (if_neg (fun q => h q.1)).symm dM_isDoneBy_25
  · first | refine lv_aload_n hx hb dM_isDoneBy_10 rfl (lv_at hl 0 rfl) ?_ | refine lv_aload_nN hx hb dM_isDoneBy_10 rfl (lv_at hl 0 rfl) ?_
    refine gM_by hC hH dM_isDoneBy_11 ?_
    refine lv_iload_n hx hb dM_isDoneBy_14 rfl (lv_at hl 1 rfl) ?_
    refine aM_i hC hH (by decide) (by assumption) dM_isDoneBy_15 ?_
    refine lv_iload_n hx hb dM_isDoneBy_16 rfl (lv_at hl 2 rfl) ?_
    refine lv_icmp_ne  (tgt := 24) hx hb dM_isDoneBy_17 (by decide) (fun h2 => ?_) (fun h2 => ?_)
    · refine lv_iconst (v := 0) hx hb dM_isDoneBy_24 (by decide) ?_
      exact grSi hC hr hlk rfl (if_neg (fun q => h2 q.2)).symm dM_isDoneBy_25
    · refine lv_iconst (v := 1) hx hb dM_isDoneBy_20 (by decide) ?_
      refine lv_goto (tgt := 25) hx hb dM_isDoneBy_21 (by decide) ?_
      exact grSi hC hr hlk rfl (if_pos ⟨h, h2⟩).symm dM_isDoneBy_25
set_option maxHeartbeats 600000 in
set_option maxRecDepth 100000 in
theorem m_freeOne (hI : mJ k y LL f) (v : Int32) (hw : yW y ≤ 60) : Met l yM_freeOne (wz yM_freeOne bM_freeOne 4 (some .int)) (rmL 0 0 0) (gP D (mk_tys k) LL f sz [.ref (mO k), .int v]) (vp_Si (fun r => r = yFr y v (yW y) (-1))) 0 0 (fun _ => False) := by
  refine gMetR (own := RX4) (u := y) (by decide) rfl hI (Nat.le_of_ble_eq_true rfl) ?_
  intro p e s m below meth c ls hC hr hlk hH hl
  have hx := hC.1
  have hb := hC.2.1
  have hml := hC.2.2.2.2.2
  have hts := hC.2.2.1
  have hown := hC.2.2.2.1
  have hl : lv_has ls 4 [(0, _), (1, _)] := hl
  refine lv_iconst (v := -1) hx hb dM_freeOne_0 (by decide) ?_
  refine lv_istore_n hx hb dM_freeOne_1 rfl hl (by decide) rfl (fun ls hl => ?_)
  have hl : lv_has ls 4 [(2, _), (0, _), (1, _)] := hl
  first | refine lv_aload_n hx hb dM_freeOne_2 rfl (lv_at hl 1 rfl) ?_ | refine lv_aload_nN hx hb dM_freeOne_2 rfl (lv_at hl 1 rfl) ?_
  refine gM_workers hC hH dM_freeOne_3 ?_
  refine lv_iconst (v := 1) hx hb dM_freeOne_6 (by decide) ?_
  refine lv_isub hx hb dM_freeOne_7 ?_
  refine lv_istore_n hx hb dM_freeOne_8 rfl hl (by decide) rfl (fun ls hl => ?_)
  have hl : lv_has ls 4 [(3, _), (2, _), (0, _), (1, _)] := hl
  refine (?_ : ∀ (n : Nat) (a b : Int32) (ls : Array Slot), n ≤ 60 → yFr y v (yW y) (-1) = yFr y v n a → b = nI n - 1 → lv_has ls 4 [(0, .ref (mO k)), (1, .int v), (2, .int a), (3, .int b)] → W p l e _ s m _ below meth c s.heap [] 0 0 _ (F0 m 9 ls [])) (yW y) (-1) _ ls hw rfl rfl (lv_sub hl [2, 3, 1, 0] rfl)
  intro n
  induction n with
  | zero =>
    intro a b ls hn hf hb2 hl
    refine lv_iload_n hx hb dM_freeOne_9 rfl (lv_at hl 3 rfl) ?_
    refine lv_if_lt  (tgt := 40) hx hb dM_freeOne_10 (by decide) (fun h => ?_) (fun h => ?_)
    · refine lv_iload_n hx hb dM_freeOne_40 rfl (lv_at hl 2 rfl) ?_
      exact grSi hC hr hlk rfl hf.symm dM_freeOne_41
    · exact absurd (by rw [hb2]; decide) h
  | succ n ih =>
    intro a b ls hn hf hb2 hl
    obtain rfl : b = nI n := by rw [hb2]; exact nI_pred n
    have hn2 : n < 60 := hn
    refine lv_iload_n hx hb dM_freeOne_9 rfl (lv_at hl 3 rfl) ?_
    refine lv_if_lt  (tgt := 40) hx hb dM_freeOne_10 (by decide) (fun h => ?_) (fun h => ?_)
    · exact absurd h (nI_pos (by omega))
    · first | refine lv_aload_n hx hb dM_freeOne_13 rfl (lv_at hl 0 rfl) ?_ | refine lv_aload_nN hx hb dM_freeOne_13 rfl (lv_at hl 0 rfl) ?_
      refine gM_toolOf hC hH dM_freeOne_14 ?_
      refine lv_iload_n hx hb dM_freeOne_17 rfl (lv_at hl 3 rfl) ?_
      refine aM_i hC hH (by decide) (by assumption) dM_freeOne_18 ?_
      refine lv_iload_n hx hb dM_freeOne_19 rfl (lv_at hl 1 rfl) ?_
      refine lv_icmp_ne  (tgt := 34) hx hb dM_freeOne_20 (by decide) (fun h1 => ?_) (fun h1 => ?_)
      · refine lv_iinc hx hb dM_freeOne_34 hl (k := 3) rfl rfl (by decide) rfl (fun ls hl => ?_)
        have hl : lv_has ls 4 [(3, _), (0, _), (1, _), (2, _)] := hl
        refine lv_goto (tgt := 9) hx hb dM_freeOne_37 (by decide) ?_
        exact ih _ _ ls (by omega) (hf.trans (by show yFr y v n _ = _; rw [if_neg (fun q => h1 q.1)])) (i_m1 _) (lv_sub hl [1, 2, 3, 0] rfl)
      · first | refine lv_aload_n hx hb dM_freeOne_23 rfl (lv_at hl 0 rfl) ?_ | refine lv_aload_nN hx hb dM_freeOne_23 rfl (lv_at hl 0 rfl) ?_
        refine gM_state hC hH dM_freeOne_24 ?_
        refine lv_iload_n hx hb dM_freeOne_27 rfl (lv_at hl 3 rfl) ?_
        refine aM_i hC hH (by decide) (by assumption) dM_freeOne_28 ?_
        refine lv_if_ne  (tgt := 34) hx hb dM_freeOne_29 (by decide) (fun h2 => ?_) (fun h2 => ?_)
        · refine lv_iinc hx hb dM_freeOne_34 hl (k := 3) rfl rfl (by decide) rfl (fun ls hl => ?_)
          have hl : lv_has ls 4 [(3, _), (0, _), (1, _), (2, _)] := hl
          refine lv_goto (tgt := 9) hx hb dM_freeOne_37 (by decide) ?_
          exact ih _ _ ls (by omega) (hf.trans (by show yFr y v n _ = _; rw [if_neg (fun q => h2 q.2)])) (i_m1 _) (lv_sub hl [1, 2, 3, 0] rfl)
        · refine lv_iload_n hx hb dM_freeOne_32 rfl (lv_at hl 3 rfl) ?_
          refine lv_istore_n hx hb dM_freeOne_33 rfl hl (by decide) rfl (fun ls hl => ?_)
          have hl : lv_has ls 4 [(2, _), (0, _), (1, _), (3, _)] := hl
          refine lv_iinc hx hb dM_freeOne_34 hl (k := 3) rfl rfl (by decide) rfl (fun ls hl => ?_)
          have hl : lv_has ls 4 [(3, _), (2, _), (0, _), (1, _)] := hl
          refine lv_goto (tgt := 9) hx hb dM_freeOne_37 (by decide) ?_
          exact ih _ _ ls (by omega) (hf.trans (by show yFr y v n _ = _; rw [if_pos ⟨h1, h2⟩])) (i_m1 _) (lv_sub hl [2, 3, 1, 0] rfl)
set_option maxHeartbeats 600000 in
set_option maxRecDepth 100000 in
theorem m_alive (hI : mJ k y LL f) (v : Int32) (hw : yW y ≤ 60) : Met l yM_alive (wz yM_alive bM_alive 4 (some .int)) (rmL 0 0 0) (gP D (mk_tys k) LL f sz [.ref (mO k), .int v]) (vp_Si (fun r => r = yAl y v (yW y))) 0 0 (fun _ => False) := by
  refine gMetR (own := RX4) (u := y) (by decide) rfl hI (Nat.le_of_ble_eq_true rfl) ?_
  intro p e s m below meth c ls hC hr hlk hH hl
  have hx := hC.1
  have hb := hC.2.1
  have hml := hC.2.2.2.2.2
  have hts := hC.2.2.1
  have hown := hC.2.2.2.1
  have hl : lv_has ls 4 [(0, _), (1, _)] := hl
  refine lv_iconst (v := 0) hx hb dM_alive_0 (by decide) ?_
  refine lv_istore_n hx hb dM_alive_1 rfl hl (by decide) rfl (fun ls hl => ?_)
  have hl : lv_has ls 4 [(2, _), (0, _), (1, _)] := hl
  refine lv_iconst (v := 0) hx hb dM_alive_2 (by decide) ?_
  refine lv_istore_n hx hb dM_alive_3 rfl hl (by decide) rfl (fun ls hl => ?_)
  have hl : lv_has ls 4 [(3, _), (2, _), (0, _), (1, _)] := hl
  refine (?_ : ∀ (n i : Nat) (a : Int32) (ls : Array Slot), i + n = yW y → a = yAl y v i → lv_has ls 4 [(0, .ref (mO k)), (1, .int v), (2, .int a), (3, .int (nI i))] → W p l e _ s m _ below meth c s.heap [] 0 0 _ (F0 m 4 ls [])) (yW y) 0 0 ls (Nat.zero_add _) rfl (lv_sub hl [2, 3, 1, 0] rfl)
  intro n
  induction n with
  | zero =>
    intro i a ls hin ha hl
    refine lv_iload_n hx hb dM_alive_4 rfl (lv_at hl 3 rfl) ?_
    first | refine lv_aload_n hx hb dM_alive_5 rfl (lv_at hl 0 rfl) ?_ | refine lv_aload_nN hx hb dM_alive_5 rfl (lv_at hl 0 rfl) ?_
    refine gM_workers hC hH dM_alive_6 ?_
    refine lv_icmp_ge  (tgt := 41) hx hb dM_alive_9 (by decide) (fun h => ?_) (fun h => ?_)
    · refine lv_iload_n hx hb dM_alive_41 rfl (lv_at hl 2 rfl) ?_
      exact grSi hC hr hlk rfl (by rw [ha, show i = yW y by omega]) dM_alive_42
    · exact absurd (nI_le (by omega) (by omega)) h
  | succ n ih =>
    intro i a ls hin ha hl
    have hi2 : i < 60 := by omega
    refine lv_iload_n hx hb dM_alive_4 rfl (lv_at hl 3 rfl) ?_
    first | refine lv_aload_n hx hb dM_alive_5 rfl (lv_at hl 0 rfl) ?_ | refine lv_aload_nN hx hb dM_alive_5 rfl (lv_at hl 0 rfl) ?_
    refine gM_workers hC hH dM_alive_6 ?_
    refine lv_icmp_ge  (tgt := 41) hx hb dM_alive_9 (by decide) (fun h => ?_) (fun h => ?_)
    · exact absurd h (nI_ge (by omega) (by omega))
    · first | refine lv_aload_n hx hb dM_alive_12 rfl (lv_at hl 0 rfl) ?_ | refine lv_aload_nN hx hb dM_alive_12 rfl (lv_at hl 0 rfl) ?_
      refine gM_toolOf hC hH dM_alive_13 ?_
      refine lv_iload_n hx hb dM_alive_16 rfl (lv_at hl 3 rfl) ?_
      refine aM_i hC hH (by decide) (by assumption) dM_alive_17 ?_
      refine lv_iload_n hx hb dM_alive_18 rfl (lv_at hl 1 rfl) ?_
      refine lv_icmp_ne  (tgt := 35) hx hb dM_alive_19 (by decide) (fun h1 => ?_) (fun h1 => ?_)
      · refine lv_iinc hx hb dM_alive_35 hl (k := 3) rfl rfl (by decide) rfl (fun ls hl => ?_)
        have hl : lv_has ls 4 [(3, _), (0, _), (1, _), (2, _)] := hl
        refine lv_goto (tgt := 4) hx hb dM_alive_38 (by decide) ?_
        exact ih (i + 1) _ ls (by omega) (ha.trans (if_neg (fun q => h1 q.1)).symm) (by rw [← nI_1 i]; exact lv_sub hl [1, 2, 3, 0] rfl)
      · first | refine lv_aload_n hx hb dM_alive_22 rfl (lv_at hl 0 rfl) ?_ | refine lv_aload_nN hx hb dM_alive_22 rfl (lv_at hl 0 rfl) ?_
        refine gM_state hC hH dM_alive_23 ?_
        refine lv_iload_n hx hb dM_alive_26 rfl (lv_at hl 3 rfl) ?_
        refine aM_i hC hH (by decide) (by assumption) dM_alive_27 ?_
        refine lv_iconst (v := 2) hx hb dM_alive_28 (by decide) ?_
        refine lv_icmp_eq  (tgt := 35) hx hb dM_alive_29 (by decide) (fun h2 => ?_) (fun h2 => ?_)
        · refine lv_iinc hx hb dM_alive_35 hl (k := 3) rfl rfl (by decide) rfl (fun ls hl => ?_)
          have hl : lv_has ls 4 [(3, _), (0, _), (1, _), (2, _)] := hl
          refine lv_goto (tgt := 4) hx hb dM_alive_38 (by decide) ?_
          exact ih (i + 1) _ ls (by omega) (ha.trans (if_neg (fun q => q.2 h2)).symm) (by rw [← nI_1 i]; exact lv_sub hl [1, 2, 3, 0] rfl)
        · refine lv_iinc hx hb dM_alive_32 hl (k := 2) rfl rfl (by decide) rfl (fun ls hl => ?_)
          have hl : lv_has ls 4 [(2, _), (0, _), (1, _), (3, _)] := hl
          refine lv_iinc hx hb dM_alive_35 hl (k := 3) rfl rfl (by decide) rfl (fun ls hl => ?_)
          have hl : lv_has ls 4 [(3, _), (2, _), (0, _), (1, _)] := hl
          refine lv_goto (tgt := 4) hx hb dM_alive_38 (by decide) ?_
          have hs : yAl y v (i + 1) = a + 1 := by rw [ha]; exact if_pos ⟨h1, h2⟩
          exact ih (i + 1) (a + Int32.ofInt 1) ls (by omega) hs.symm (by rw [← nI_1 i]; exact lv_sub hl [2, 3, 1, 0] rfl)
end M1
end
section
/-! THE RELATION of the class's state x and the reference's state y -/
def oI (o : Option Nat) : Int32 := match o with
  | none => -1
  | some i => nI i
def RT (t : cs_T) (y : ms_S) (i : Nat) : Prop := ML y 7 i = tEd t ∧ MI y 8 i = tQu t ∧ MI y 9 i = tBa t
def RW (w : cs_W) (y : ms_S) (i : Nat) : Prop := MI y 10 i = nI (wTo w) ∧ MI y 11 i = zSt w ∧ MI y 12 i = wFi w ∧ MI y 13 i = wMe w ∧ (∀ j, wRq w = some j → MI y 14 i = nI j) ∧ MI y 15 i = wEn w ∧ MI y 16 i = wTr w ∧ (zSt w = 0 → MI y 17 i = wFr w) ∧ ML y 18 i = wEd w ∧ (¬ wEn w = 0 → wRq w = none)
def RR (r : cs_R) (y : ms_S) (j : Nat) : Prop := MI y 19 j = nI (rTo r) ∧ MI y 20 j = rSz r ∧ MI y 21 j = rSt r ∧ MI y 22 j = oI (rWk r) ∧ (rSt r = 2 → rWk r ≠ none → MI y 23 j = rPl r) ∧ MI y 24 j = rBe r ∧ MI y 25 j = bI (rUn r) ∧ MI y 26 j = bI (rRe r) ∧ ML y 27 j = rIn r ∧ ML y 28 j = rRs r ∧ (rSt r = 0 → rWk r = none ∧ rUn r = false)
def RX (x : cs_S) : Prop := ∀ i j, i < nW x → wRq (gW x i) = some j → rWk (gR x j) = some i ∧ rSt (gR x j) = 1
def Rel (x : cs_S) (y : ms_S) : Prop :=
  (y.1 = x.1 ∧ y.2.1 = x.2.1 ∧ y.2.2.1 = x.2.2.1) ∧ cs_ok x ∧ (0 ≤ (cCl x).toInt ∧ (cCl x).toInt ≤ 1000000000) ∧ (∀ i, i < nT x → RT (gT x i) y i) ∧ (∀ i, i < nW x → RW (gW x i) y i) ∧ (∀ j, j < nR x → RR (gR x j) y j) ∧ RX x ∧ (∀ i, nW x ≤ i → i < 60 → MI y 11 i = 0 ∧ MI y 12 i = 0 ∧ MI y 13 i = 0 ∧ MI y 15 i = 0 ∧ MI y 16 i = 0 ∧ MI y 17 i = 0) ∧ (∀ j, nR x ≤ j → j < 100 → MI y 24 j = 0 ∧ MI y 25 j = 0 ∧ MI y 26 j = 0 ∧ ML y 28 j = 0)
/-- y' is y but for the worker i and the request j -/
def fr (y y' : ms_S) (i j : Nat) : Prop := (y'.1 = y.1 ∧ y'.2.1 = y.2.1 ∧ y'.2.2.1 = y.2.2.1) ∧ ∀ a b, (a < 10 ∨ (a < 19 ∧ b ≠ i) ∨ (19 ≤ a ∧ b ≠ j)) → MI y' a b = MI y a b ∧ ML y' a b = ML y a b
theorem fr.rf {y : ms_S} {i j : Nat} : fr y y i j := ⟨⟨rfl, rfl, rfl⟩, fun _ _ _ => ⟨rfl, rfl⟩⟩
theorem fr.iW {y y' : ms_S} {i j : Nat} (h : fr y y' i j) (a : Nat) (v : Int32) (ha : 10 ≤ a ∧ a < 19) : fr y (sMI y' a i v) i j := ⟨h.1, fun b c hb => ⟨by rw [MI_sMI, if_neg (by omega)]; exact (h.2 b c hb).1, (h.2 b c hb).2⟩⟩
theorem fr.iR {y y' : ms_S} {i j : Nat} (h : fr y y' i j) (a : Nat) (v : Int32) (ha : 19 ≤ a) : fr y (sMI y' a j v) i j := ⟨h.1, fun b c hb => ⟨by rw [MI_sMI, if_neg (by omega)]; exact (h.2 b c hb).1, (h.2 b c hb).2⟩⟩
theorem fr.lW {y y' : ms_S} {i j : Nat} (h : fr y y' i j) (a : Nat) (v : Int64) (ha : 10 ≤ a ∧ a < 19) : fr y (sML y' a i v) i j := ⟨h.1, fun b c hb => ⟨(h.2 b c hb).1, by rw [ML_sML, if_neg (by omega)]; exact (h.2 b c hb).2⟩⟩
theorem fr.lR {y y' : ms_S} {i j : Nat} (h : fr y y' i j) (a : Nat) (v : Int64) (ha : 19 ≤ a) : fr y (sML y' a j v) i j := ⟨h.1, fun b c hb => ⟨(h.2 b c hb).1, by rw [ML_sML, if_neg (by omega)]; exact (h.2 b c hb).2⟩⟩
theorem RT.mv {t : cs_T} {y y' : ms_S} {i a b : Nat} (h : RT t y i) (hf : fr y y' a b) : RT t y' i := by
  have e := fun c (hc : c < 10) => hf.2 c i (Or.inl hc)
  exact ⟨by rw [(e 7 (by omega)).2]; exact h.1, by rw [(e 8 (by omega)).1]; exact h.2.1, by rw [(e 9 (by omega)).1]; exact h.2.2⟩
theorem RW.mv {w : cs_W} {y y' : ms_S} {i a b : Nat} (h : RW w y i) (hf : fr y y' a b) (hi : i ≠ a) : RW w y' i := by
  have e := fun c (hc : c < 19) => hf.2 c i (Or.inr (Or.inl ⟨hc, hi⟩))
  obtain ⟨h1, h2, h3, h4, h5, h6, h7, h8, h9, h10⟩ := h
  exact ⟨by rw [(e 10 (by omega)).1]; exact h1, by rw [(e 11 (by omega)).1]; exact h2, by rw [(e 12 (by omega)).1]; exact h3, by rw [(e 13 (by omega)).1]; exact h4, fun j hj => by rw [(e 14 (by omega)).1]; exact h5 j hj, by rw [(e 15 (by omega)).1]; exact h6, by rw [(e 16 (by omega)).1]; exact h7, fun q => by rw [(e 17 (by omega)).1]; exact h8 q, by rw [(e 18 (by omega)).2]; exact h9, h10⟩
theorem RR.mv {r : cs_R} {y y' : ms_S} {j a b : Nat} (h : RR r y j) (hf : fr y y' a b) (hj : j ≠ b) : RR r y' j := by
  have e := fun c (hc : 19 ≤ c) => hf.2 c j (Or.inr (Or.inr ⟨hc, hj⟩))
  obtain ⟨h1, h2, h3, h4, h5, h6, h7, h8, h9, h10, h11⟩ := h
  exact ⟨by rw [(e 19 (by omega)).1]; exact h1, by rw [(e 20 (by omega)).1]; exact h2, by rw [(e 21 (by omega)).1]; exact h3, by rw [(e 22 (by omega)).1]; exact h4, fun q1 q2 => by rw [(e 23 (by omega)).1]; exact h5 q1 q2, by rw [(e 24 (by omega)).1]; exact h6, by rw [(e 25 (by omega)).1]; exact h7, by rw [(e 26 (by omega)).1]; exact h8, by rw [(e 27 (by omega)).2]; exact h9, by rw [(e 28 (by omega)).2]; exact h10, h11⟩
section RL
variable {x : cs_S} {y y' : ms_S} {i j : Nat}
theorem Rel.n (h : Rel x y) : yT y = nT x ∧ yW y = nW x ∧ yR y = nR x := by
  have e := h.1.2.2
  exact ⟨congrArg Prod.fst e, congrArg (fun q => q.2.1) e, congrArg (fun q => q.2.2) e⟩
theorem Rel.uniq (h : Rel x y) {a b c : Nat} (ha : a < nW x) (hb : b < nW x) (h1 : wRq (gW x a) = some c) (h2 : wRq (gW x b) = some c) : a = b := Option.some.inj ((h.2.2.2.2.2.2.1 a c ha h1).1.symm.trans (h.2.2.2.2.2.2.1 b c hb h2).1)
theorem Rel.freshW (h : Rel x y) (hf : fr y y' i j) (hi : i < nW x) : ∀ a, nW x ≤ a → a < 60 → MI y' 11 a = 0 ∧ MI y' 12 a = 0 ∧ MI y' 13 a = 0 ∧ MI y' 15 a = 0 ∧ MI y' 16 a = 0 ∧ MI y' 17 a = 0 := by
  intro a h1 h2
  have e := fun c (hc : c < 19) => (hf.2 c a (Or.inr (Or.inl ⟨hc, by omega⟩))).1
  have q := h.2.2.2.2.2.2.2.1 a h1 h2
  exact ⟨by rw [e 11 (by omega)]; exact q.1, by rw [e 12 (by omega)]; exact q.2.1, by rw [e 13 (by omega)]; exact q.2.2.1, by rw [e 15 (by omega)]; exact q.2.2.2.1, by rw [e 16 (by omega)]; exact q.2.2.2.2.1, by rw [e 17 (by omega)]; exact q.2.2.2.2.2⟩
theorem Rel.freshR (h : Rel x y) (hf : fr y y' i j) (hj : j < nR x ∨ 100 ≤ j) : ∀ a, nR x ≤ a → a < 100 → MI y' 24 a = 0 ∧ MI y' 25 a = 0 ∧ MI y' 26 a = 0 ∧ ML y' 28 a = 0 := by
  intro a h1 h2
  have e := fun c (hc : 19 ≤ c) => hf.2 c a (Or.inr (Or.inr ⟨hc, by omega⟩))
  have q := h.2.2.2.2.2.2.2.2 a h1 h2
  exact ⟨by rw [(e 24 (by omega)).1]; exact q.1, by rw [(e 25 (by omega)).1]; exact q.2.1, by rw [(e 26 (by omega)).1]; exact q.2.2.1, by rw [(e 28 (by omega)).2]; exact q.2.2.2⟩
theorem Rel.upWR (h : Rel x y) (hi : i < nW x) (hj : j < nR x) (hf : fr y y' i j) {w : cs_W} {r : cs_R} (hw : RW w y' i) (hr : RR r y' j) (okw : wTo w < nT x ∧ ∀ a, wRq w = some a → a < nR x) (okr : rTo r < nT x ∧ ∀ a, rWk r = some a → a < nW x) (cw : ∀ a, wRq w = some a → a = j ∧ rWk r = some i ∧ rSt r = 1) (co : ∀ a, a ≠ i → a < nW x → wRq (gW x a) ≠ some j) : Rel (sR (sW x i w) j r) y' := by
  obtain ⟨h1, h2, h3, h4, h5, h6, h7, h8, h9⟩ := id h
  refine ⟨⟨hf.1.1.trans h1.1, hf.1.2.1.trans h1.2.1, hf.1.2.2.trans h1.2.2⟩, (h2.setW i w okw).setR j r okr, h3, fun t ht => (h4 t ht).mv hf, fun a ha => ?_, fun a ha => ?_, fun a b ha hb => ?_, h.freshW hf hi, h.freshR hf (Or.inl hj)⟩
  · rw [gW_sR]
    by_cases e : a = i
    · subst e
      rw [gW_self]
      exact hw
    · rw [gW_ne _ _ e]
      exact (h5 a ha).mv hf e
  · by_cases e : a = j
    · subst e
      rw [gR_self]
      exact hr
    · rw [gR_ne _ _ e, gR_sW]
      exact (h6 a ha).mv hf e
  · rw [gW_sR] at hb
    by_cases e : a = i
    · subst e
      rw [gW_self] at hb
      obtain ⟨rfl, q1, q2⟩ := cw b hb
      rw [gR_self]
      exact ⟨q1, q2⟩
    · rw [gW_ne _ _ e] at hb
      have e2 : b ≠ j := fun q => co a e ha (by rw [hb, q])
      rw [gR_ne _ _ e2, gR_sW]
      exact h7 a b ha hb
theorem Rel.upW (h : Rel x y) (hi : i < nW x) (hf : fr y y' i 1000) {w : cs_W} (hw : RW w y' i) (okw : wTo w < nT x) (cw : ∀ a, wRq w = some a → wRq (gW x i) = some a) : Rel (sW x i w) y' := by
  obtain ⟨h1, h2, h3, h4, h5, h6, h7, h8, h9⟩ := id h
  refine ⟨⟨hf.1.1.trans h1.1, hf.1.2.1.trans h1.2.1, hf.1.2.2.trans h1.2.2⟩, h2.setW i w ⟨okw, fun a ha => (h2.2.1 i hi).2 a (cw a ha)⟩, h3, fun t ht => (h4 t ht).mv hf, fun a ha => ?_, fun a ha => (h6 a ha).mv hf (by have : a < nR x := ha; have := h2.1.2.2; omega), fun a b ha hb => ?_, h.freshW hf hi, h.freshR hf (Or.inr (by decide))⟩
  · by_cases e : a = i
    · subst e
      rw [gW_self]
      exact hw
    · rw [gW_ne _ _ e]
      exact (h5 a ha).mv hf e
  · rw [gR_sW]
    by_cases e : a = i
    · subst e
      rw [gW_self] at hb
      exact h7 a b ha (cw b hb)
    · rw [gW_ne _ _ e] at hb
      exact h7 a b ha hb
theorem Rel.upR (h : Rel x y) (hj : j < nR x) (hf : fr y y' 1000 j) {r : cs_R} (hr : RR r y' j) (okr : rTo r < nT x ∧ ∀ a, rWk r = some a → a < nW x) (co : (rWk r = rWk (gR x j) ∧ rSt r = rSt (gR x j)) ∨ ∀ a, a < nW x → wRq (gW x a) ≠ some j) : Rel (sR x j r) y' := by
  obtain ⟨h1, h2, h3, h4, h5, h6, h7, h8, h9⟩ := id h
  refine ⟨⟨hf.1.1.trans h1.1, hf.1.2.1.trans h1.2.1, hf.1.2.2.trans h1.2.2⟩, h2.setR j r okr, h3, fun t ht => (h4 t ht).mv hf, fun a ha => (h5 a ha).mv hf (by have : a < nW x := ha; have := h2.1.2.1; omega), fun a ha => ?_, fun a b ha hb => ?_, fun a q1 q2 => ?_, h.freshR hf (Or.inl hj)⟩
  · by_cases e : a = j
    · subst e
      rw [gR_self]
      exact hr
    · rw [gR_ne _ _ e]
      exact (h6 a ha).mv hf e
  · rw [gW_sR] at hb
    by_cases e : b = j
    · subst e
      rw [gR_self]
      rcases co with ⟨q1, q2⟩ | co
      · rw [q1, q2]
        exact h7 a b ha hb
      · exact absurd hb (co a ha)
    · rw [gR_ne _ _ e]
      exact h7 a b ha hb
  · have e := fun c (hc : c < 19) => (hf.2 c a (Or.inr (Or.inl ⟨hc, by omega⟩))).1
    have q := h8 a q1 q2
    exact ⟨by rw [e 11 (by omega)]; exact q.1, by rw [e 12 (by omega)]; exact q.2.1, by rw [e 13 (by omega)]; exact q.2.2.1, by rw [e 15 (by omega)]; exact q.2.2.2.1, by rw [e 16 (by omega)]; exact q.2.2.2.2.1, by rw [e 17 (by omega)]; exact q.2.2.2.2.2⟩
theorem Rel.noW (h : Rel x y) (hs : ¬ rSt (gR x j) = 1) : ∀ a, a < nW x → wRq (gW x a) ≠ some j := fun a ha q => hs (h.2.2.2.2.2.2.1 a j ha q).2
theorem Rel.onlyW (h : Rel x y) (hi : i < nW x) (hq : wRq (gW x i) = some j) : ∀ a, a ≠ i → a < nW x → wRq (gW x a) ≠ some j := fun a hne ha q => hne (h.uniq ha hi q hq)
theorem zSt_0 {w : cs_W} : zSt w = 0 ↔ wEn w = 0 ∧ wRq w = none := by
  unfold zSt
  split
  · next h =>
    split
    · next h2 => exact ⟨fun _ => ⟨h, h2⟩, fun _ => rfl⟩
    · next h2 => exact ⟨fun q => absurd q (by decide), fun q => absurd q.2 h2⟩
  · next h => exact ⟨fun q => absurd q (by decide), fun q => absurd q.1 h⟩
theorem zSt_2 {w : cs_W} : zSt w = 2 ↔ ¬ wEn w = 0 := by
  unfold zSt
  split
  · next h =>
    split
    · exact ⟨fun q => absurd q (by decide), fun q => absurd h q⟩
    · exact ⟨fun q => absurd q (by decide), fun q => absurd h q⟩
  · next h => exact ⟨fun _ => h, fun _ => rfl⟩
theorem zSt_1 {w : cs_W} : zSt w = 1 ↔ wEn w = 0 ∧ ¬ wRq w = none := by
  unfold zSt
  split
  · next h =>
    split
    · next h2 => exact ⟨fun q => absurd q (by decide), fun q => absurd h2 q.2⟩
    · next h2 => exact ⟨fun _ => ⟨h, h2⟩, fun _ => rfl⟩
  · next h => exact ⟨fun q => absurd q (by decide), fun q => absurd q.1 h⟩
theorem fr.yEnd (i : Nat) (r : Int32) (j : Nat) : fr y (yEnd y i r) i j := ((fr.rf.iW 11 2 (by decide)).iW 15 r (by decide)).iW 14 (-1) (by decide)
/-- a worker with no request ends -/
theorem Rel.ends0 (h : Rel x y) (hi : i < nW x) {r : Int32} (hr : ¬ r = 0) (hq : wRq (gW x i) = none) : Rel (sW x i (wEn_ (gW x i) r)) (yEnd y i r) := by
  obtain ⟨q1, q2, q3, q4, q5, q6, q7, q8, q9, q10⟩ := h.2.2.2.2.1 i hi
  have hz : zSt (wEn_ (gW x i) r) = 2 := zSt_2.mpr hr
  refine h.upW hi (fr.yEnd i r 1000) ⟨?_, ?_, ?_, ?_, fun j hj => ?_, ?_, ?_, fun q => ?_, ?_, fun _ => hq⟩ (h.2.1.2.1 i hi).1 (fun a ha => ha)
  · simpa [yEnd, MI_sMI] using q1
  · rw [hz]; simp [yEnd, MI_sMI]
  · simpa [yEnd, MI_sMI] using q3
  · simpa [yEnd, MI_sMI] using q4
  · exact absurd ((show wRq (gW x i) = some j from hj).symm.trans hq) (by simp)
  · simp [yEnd, MI_sMI]
  · simpa [yEnd, MI_sMI] using q7
  · rw [hz] at q; exact absurd q (by decide)
  · exact q9
end RL
end
section
/-! THE REFERENCE'S METHODS, by the class's state -/
def mR (k : mk_F) : cs_S → List Nat → (Nat → va_E) → Prop := fun x LL f => ∃ y, Rel x y ∧ mJ k y LL f
theorem mR.out {D : va_G} {k : mk_F} {x : cs_S} {A : Nat → Prop} {H0 H : Heap} {locs : List Loc} (hH : gH D (mR k) x A H0 H locs) : ∃ y, Rel x y ∧ mG D k y A H0 H locs := by
  obtain ⟨LL, f, ⟨y, h1, h2⟩, h3⟩ := hH
  exact ⟨y, h1, LL, f, h2, h3⟩
theorem mR.in {D : va_G} {k : mk_F} {x : cs_S} {y : ms_S} {A : Nat → Prop} {H0 H : Heap} {locs : List Loc} (hR : Rel x y) (hH : mG D k y A H0 H locs) : gH D (mR k) x A H0 H locs := by
  obtain ⟨LL, f, h2, h3⟩ := hH
  exact ⟨LL, f, ⟨y, hR, h2⟩, h3⟩
theorem Rel.upT {x : cs_S} {y y' : ms_S} {i : Nat} (h : Rel x y) (hi : i < nT x) (hs : y'.1 = y.1 ∧ y'.2.1 = y.2.1 ∧ y'.2.2.1 = y.2.2.1) (hf : ∀ a b, (10 ≤ a ∨ b ≠ i) → MI y' a b = MI y a b ∧ ML y' a b = ML y a b) {t : cs_T} (ht : RT t y' i) : Rel (sT x i t) y' := by
  obtain ⟨h1, h2, h3, h4, h5, h6, h7, h8, h9⟩ := id h
  have e1 : ∀ a b, 10 ≤ a → MI y' a b = MI y a b := fun a b ha => (hf a b (Or.inl ha)).1
  have e2 : ∀ a b, 10 ≤ a → ML y' a b = ML y a b := fun a b ha => (hf a b (Or.inl ha)).2
  refine ⟨⟨hs.1.trans h1.1, hs.2.1.trans h1.2.1, hs.2.2.trans h1.2.2⟩, h2, h3, fun a ha => ?_, fun a ha => ?_, fun a ha => ?_, h7, fun a q1 q2 => ?_, fun a q1 q2 => ?_⟩
  · by_cases e : a = i
    · subst e
      rw [gT_self]
      exact ht
    · rw [gT_ne _ _ e]
      have q := h4 a ha
      exact ⟨by rw [(hf 7 a (Or.inr e)).2]; exact q.1, by rw [(hf 8 a (Or.inr e)).1]; exact q.2.1, by rw [(hf 9 a (Or.inr e)).1]; exact q.2.2⟩
  · have q := h5 a ha
    unfold RW at q ⊢
    simpa only [e1 _ a (by decide : 10 ≤ 10), e1 _ a (by decide : 10 ≤ 11), e1 _ a (by decide : 10 ≤ 12), e1 _ a (by decide : 10 ≤ 13), e1 _ a (by decide : 10 ≤ 14), e1 _ a (by decide : 10 ≤ 15), e1 _ a (by decide : 10 ≤ 16), e1 _ a (by decide : 10 ≤ 17), e2 _ a (by decide : 10 ≤ 18)] using q
  · have q := h6 a ha
    unfold RR at q ⊢
    simpa only [e1 _ a (by decide : 10 ≤ 19), e1 _ a (by decide : 10 ≤ 20), e1 _ a (by decide : 10 ≤ 21), e1 _ a (by decide : 10 ≤ 22), e1 _ a (by decide : 10 ≤ 23), e1 _ a (by decide : 10 ≤ 24), e1 _ a (by decide : 10 ≤ 25), e1 _ a (by decide : 10 ≤ 26), e2 _ a (by decide : 10 ≤ 27), e2 _ a (by decide : 10 ≤ 28)] using q
  · simpa only [e1 _ a (by decide : 10 ≤ 11), e1 _ a (by decide : 10 ≤ 12), e1 _ a (by decide : 10 ≤ 13), e1 _ a (by decide : 10 ≤ 15), e1 _ a (by decide : 10 ≤ 16), e1 _ a (by decide : 10 ≤ 17)] using h8 a q1 q2
  · simpa only [e1 _ a (by decide : 10 ≤ 24), e1 _ a (by decide : 10 ≤ 25), e1 _ a (by decide : 10 ≤ 26), e2 _ a (by decide : 10 ≤ 28)] using h9 a q1 q2
theorem oI_neg (o : Option Nat) (h : ∀ i, o = some i → i < 100) : oI o = -1 ↔ o = none := by
  cases o with
  | none => exact ⟨fun _ => rfl, fun _ => rfl⟩
  | some i => exact ⟨fun q => absurd q (fun q => nI_pos (n := i) (by have := h i rfl; omega) (by rw [show nI i = -1 from q]; decide)), fun q => by cases q⟩
section M2
variable {l : Launch} {D : va_G} {k : mk_F} {x : cs_S} {LL : List Nat} {f : Nat → va_E} {sz : Nat}
set_option maxHeartbeats 600000 in
set_option maxRecDepth 100000 in
theorem m_bars (hI : mR k x LL f) (v : Int32) : Met l yM_bars (wz yM_bars bM_bars 2 (some .int)) (rmL 1 0 0) (gP D (mk_tys k) LL f sz [.ref (mO k), .int v]) (vp_Si (fun r => r = zBars x v)) 0 0 (fun _ => False) := by
  refine gMetR (own := RX4) (u := x) (by decide) rfl hI (Nat.le_of_ble_eq_true rfl) ?_
  intro p e s m below meth c ls hC hr hlk hH hl
  obtain ⟨y, hR, hH⟩ := mR.out hH
  obtain ⟨hnT, hnW, hnR⟩ := hR.n
  have hok := hR.2.1
  have hb6 := hok.1.1
  have hb60 := hok.1.2.1
  have hb100 := hok.1.2.2
  have hx := hC.1
  have hb := hC.2.1
  have hml := hC.2.2.2.2.2
  have hts := hC.2.2.1
  have hown := hC.2.2.2.1
  have hl : lv_has ls 2 [(0, _), (1, _)] := hl
  refine lv_iload_n hx hb dM_bars_0 rfl (lv_at hl 1 rfl) ?_
  first | refine lv_aload_n hx hb dM_bars_1 rfl (lv_at hl 0 rfl) ?_ | refine lv_aload_nN hx hb dM_bars_1 rfl (lv_at hl 0 rfl) ?_
  refine gM_tools hC hH dM_bars_2 ?_
  refine gcTi hC.fix hl.1 (m_in v (yT y) (by omega)) kM_96 ⟨Nat.le_of_ble_eq_true rfl, Nat.le_of_ble_eq_true rfl⟩ dM_bars_5 ⟨Nat.le_of_ble_eq_true rfl, Nat.le_of_ble_eq_true rfl⟩ rfl (Nat.le_of_ble_eq_true rfl) (fun r hr1 => ?_)
  rcases hr1 with ⟨t, ht, hv, rfl⟩ | ⟨hv, rfl⟩
  · have ht2 : t < nT x := by rw [← hnT]; exact ht
    have ht3 : t < 6 := by omega
    have hkk : lk (nT x) v = some t := by rw [hv]; exact lk_in ht2 (by omega)
    subst hv
    refine lv_if_eq  (tgt := 20) hx hb dM_bars_8 (by decide) (fun h => ?_) (fun h => ?_)
    · exact absurd h (by decide)
    · first | refine lv_aload_n hx hb dM_bars_11 rfl (lv_at hl 0 rfl) ?_ | refine lv_aload_nN hx hb dM_bars_11 rfl (lv_at hl 0 rfl) ?_
      refine gM_barsOf hC hH dM_bars_12 ?_
      refine lv_iload_n hx hb dM_bars_15 rfl (lv_at hl 1 rfl) ?_
      refine aM_i hC hH (by decide) (by assumption) dM_bars_16 ?_
      refine lv_goto (tgt := 21) hx hb dM_bars_17 (by decide) ?_
      exact grSi hC hr hlk rfl (by simp only [zBars, hkk]; exact (hR.2.2.2.1 t ht2).2.2) dM_bars_21
  · have hkk : lk (nT x) v = none := lk_out (fun i hi => hv i (by rw [hnT]; exact hi))
    refine lv_if_eq  (tgt := 20) hx hb dM_bars_8 (by decide) (fun h => ?_) (fun h => ?_)
    · refine lv_iconst (v := -1) hx hb dM_bars_20 (by decide) ?_
      exact grSi hC hr hlk rfl (by simp only [zBars, hkk]) dM_bars_21
    · exact absurd rfl h
set_option maxHeartbeats 600000 in
set_option maxRecDepth 100000 in
theorem m_result (hI : mR k x LL f) (v : Int32) : Met l yM_result (wz yM_result bM_result 2 (some .long)) (rmL 1 0 0) (gP D (mk_tys k) LL f sz [.ref (mO k), .int v]) (vp_Sl (fun r => r = zRes x v)) 0 0 (fun _ => False) := by
  refine gMetR (own := RX4) (u := x) (by decide) rfl hI (Nat.le_of_ble_eq_true rfl) ?_
  intro p e s m below meth c ls hC hr hlk hH hl
  obtain ⟨y, hR, hH⟩ := mR.out hH
  obtain ⟨hnT, hnW, hnR⟩ := hR.n
  have hok := hR.2.1
  have hb6 := hok.1.1
  have hb60 := hok.1.2.1
  have hb100 := hok.1.2.2
  have hx := hC.1
  have hb := hC.2.1
  have hml := hC.2.2.2.2.2
  have hts := hC.2.2.1
  have hown := hC.2.2.2.1
  have hl : lv_has ls 2 [(0, _), (1, _)] := hl
  refine lv_iload_n hx hb dM_result_0 rfl (lv_at hl 1 rfl) ?_
  first | refine lv_aload_n hx hb dM_result_1 rfl (lv_at hl 0 rfl) ?_ | refine lv_aload_nN hx hb dM_result_1 rfl (lv_at hl 0 rfl) ?_
  refine gM_requests hC hH dM_result_2 ?_
  refine gcTi hC.fix hl.1 (m_in v (yR y) (by omega)) kM_96 ⟨Nat.le_of_ble_eq_true rfl, Nat.le_of_ble_eq_true rfl⟩ dM_result_5 ⟨Nat.le_of_ble_eq_true rfl, Nat.le_of_ble_eq_true rfl⟩ rfl (Nat.le_of_ble_eq_true rfl) (fun r hr1 => ?_)
  rcases hr1 with ⟨j, hj, hv, rfl⟩ | ⟨hv, rfl⟩
  · have hj2 : j < nR x := by rw [← hnR]; exact hj
    have hj3 : j < 100 := by omega
    have hkk : lk (nR x) v = some j := by rw [hv]; exact lk_in hj2 (by omega)
    subst hv
    have q := hR.2.2.2.2.2.1 j hj2
    refine lv_if_eq  (tgt := 30) hx hb dM_result_8 (by decide) (fun h => ?_) (fun h => ?_)
    · exact absurd h (by decide)
    · first | refine lv_aload_n hx hb dM_result_11 rfl (lv_at hl 0 rfl) ?_ | refine lv_aload_nN hx hb dM_result_11 rfl (lv_at hl 0 rfl) ?_
      refine gM_kind hC hH dM_result_12 ?_
      refine lv_iload_n hx hb dM_result_15 rfl (lv_at hl 1 rfl) ?_
      refine aM_i hC hH (by decide) (by assumption) dM_result_16 ?_
      refine lv_iconst (v := 2) hx hb dM_result_17 (by decide) ?_
      refine lv_icmp_ne  (tgt := 30) hx hb dM_result_18 (by decide) (fun h2 => ?_) (fun h2 => ?_)
      · refine lv_lconst (v := 0) hx hb dM_result_30 (by decide) ?_
        exact grSl hC hr hlk (by simp only [zRes, hkk]; rw [if_neg (by rw [← q.2.2.1]; exact h2)]) dM_result_31
      · first | refine lv_aload_n hx hb dM_result_21 rfl (lv_at hl 0 rfl) ?_ | refine lv_aload_nN hx hb dM_result_21 rfl (lv_at hl 0 rfl) ?_
        refine gM_gave hC hH dM_result_22 ?_
        refine lv_iload_n hx hb dM_result_25 rfl (lv_at hl 1 rfl) ?_
        refine aM_l hC hH (by decide) (by assumption) dM_result_26 ?_
        refine lv_goto (tgt := 31) hx hb dM_result_27 (by decide) ?_
        exact grSl hC hr hlk (by simp only [zRes, hkk]; rw [if_pos (by rw [← q.2.2.1]; exact h2)]; exact q.2.2.2.2.2.2.2.2.2.1) dM_result_31
  · have hkk : lk (nR x) v = none := lk_out (fun i hi => hv i (by rw [hnR]; exact hi))
    refine lv_if_eq  (tgt := 30) hx hb dM_result_8 (by decide) (fun h => ?_) (fun h => ?_)
    · refine lv_lconst (v := 0) hx hb dM_result_30 (by decide) ?_
      exact grSl hC hr hlk (by simp only [zRes, hkk]) dM_result_31
    · exact absurd rfl h
set_option maxHeartbeats 600000 in
set_option maxRecDepth 100000 in
theorem m_about (hI : mR k x LL f) (v w : Int32) : Met l yM_about (wz yM_about bM_about 3 (some .int)) (rmL 1 0 0) (gP D (mk_tys k) LL f sz [.ref (mO k), .int v, .int w]) (vp_Si (fun r => r = zAbo x v w)) 0 0 (fun _ => False) := by
  refine gMetR (own := RX4) (u := x) (by decide) rfl hI (Nat.le_of_ble_eq_true rfl) ?_
  intro p e s m below meth c ls hC hr hlk hH hl
  obtain ⟨y, hR, hH⟩ := mR.out hH
  obtain ⟨hnT, hnW, hnR⟩ := hR.n
  have hok := hR.2.1
  have hb6 := hok.1.1
  have hb60 := hok.1.2.1
  have hb100 := hok.1.2.2
  have hx := hC.1
  have hb := hC.2.1
  have hml := hC.2.2.2.2.2
  have hts := hC.2.2.1
  have hown := hC.2.2.2.1
  have hl : lv_has ls 3 [(0, _), (1, _), (2, _)] := hl
  refine lv_iload_n hx hb dM_about_0 rfl (lv_at hl 1 rfl) ?_
  first | refine lv_aload_n hx hb dM_about_1 rfl (lv_at hl 0 rfl) ?_ | refine lv_aload_nN hx hb dM_about_1 rfl (lv_at hl 0 rfl) ?_
  refine gM_requests hC hH dM_about_2 ?_
  refine gcTi hC.fix hl.1 (m_in v (yR y) (by omega)) kM_96 ⟨Nat.le_of_ble_eq_true rfl, Nat.le_of_ble_eq_true rfl⟩ dM_about_5 ⟨Nat.le_of_ble_eq_true rfl, Nat.le_of_ble_eq_true rfl⟩ rfl (Nat.le_of_ble_eq_true rfl) (fun r hr1 => ?_)
  rcases hr1 with ⟨j, hj, hv, rfl⟩ | ⟨hv, rfl⟩
  · have hj2 : j < nR x := by rw [← hnR]; exact hj
    have hj3 : j < 100 := by omega
    have hkk : lk (nR x) v = some j := by rw [hv]; exact lk_in hj2 (by omega)
    subst hv
    have q := hR.2.2.2.2.2.1 j hj2
    refine lv_if_ne  (tgt := 13) hx hb dM_about_8 (by decide) (fun h => ?_) (fun h => ?_)
    · refine lv_iload_n hx hb dM_about_13 rfl (lv_at hl 2 rfl) ?_
      rcases sw5 w with ⟨hw, rfl⟩ | ⟨hw, rfl⟩ | ⟨hw, rfl⟩ | ⟨hw, rfl⟩ | ⟨hw, rfl⟩ | ⟨hw, h0, h1, h2, h3, h4⟩
      · refine lv_tableIn (tgt := 48) hx hb dM_about_14 (by decide) (by decide) rfl (by decide) ?_
        first | refine lv_aload_n hx hb dM_about_48 rfl (lv_at hl 0 rfl) ?_ | refine lv_aload_nN hx hb dM_about_48 rfl (lv_at hl 0 rfl) ?_
        refine gM_kind hC hH dM_about_49 ?_
        refine lv_iload_n hx hb dM_about_52 rfl (lv_at hl 1 rfl) ?_
        refine aM_i hC hH (by decide) (by assumption) dM_about_53 ?_
        exact grSi hC hr hlk rfl (by simp only [zAbo, hkk]; exact q.2.2.1) dM_about_54
      · refine lv_tableIn (tgt := 55) hx hb dM_about_14 (by decide) (by decide) rfl (by decide) ?_
        first | refine lv_aload_n hx hb dM_about_55 rfl (lv_at hl 0 rfl) ?_ | refine lv_aload_nN hx hb dM_about_55 rfl (lv_at hl 0 rfl) ?_
        refine gM_by hC hH dM_about_56 ?_
        refine lv_iload_n hx hb dM_about_59 rfl (lv_at hl 1 rfl) ?_
        refine aM_i hC hH (by decide) (by assumption) dM_about_60 ?_
        exact grSi hC hr hlk rfl (by simp only [zAbo, hkk]; refine q.2.2.2.1.trans ?_; rcases rWk (gR x j) with _ | i <;> rfl) dM_about_61
      · refine lv_tableIn (tgt := 62) hx hb dM_about_14 (by decide) (by decide) rfl (by decide) ?_
        first | refine lv_aload_n hx hb dM_about_62 rfl (lv_at hl 0 rfl) ?_ | refine lv_aload_nN hx hb dM_about_62 rfl (lv_at hl 0 rfl) ?_
        refine gM_begun hC hH dM_about_63 ?_
        refine lv_iload_n hx hb dM_about_66 rfl (lv_at hl 1 rfl) ?_
        refine aM_i hC hH (by decide) (by assumption) dM_about_67 ?_
        exact grSi hC hr hlk rfl (by simp only [zAbo, hkk]; exact q.2.2.2.2.2.1) dM_about_68
      · refine lv_tableIn (tgt := 69) hx hb dM_about_14 (by decide) (by decide) rfl (by decide) ?_
        first | refine lv_aload_n hx hb dM_about_69 rfl (lv_at hl 0 rfl) ?_ | refine lv_aload_nN hx hb dM_about_69 rfl (lv_at hl 0 rfl) ?_
        refine gM_isUnwanted hC hH dM_about_70 ?_
        refine lv_iload_n hx hb dM_about_73 rfl (lv_at hl 1 rfl) ?_
        refine aM_z hC hH (by decide) (by assumption) dM_about_74 ?_
        rw [q.2.2.2.2.2.2.1]
        refine lv_if_eq  (tgt := 82) hx hb dM_about_75 (by decide) (fun h9 => ?_) (fun h9 => ?_)
        · refine lv_iconst (v := 0) hx hb dM_about_82 (by decide) ?_
          exact grSi hC hr hlk rfl (by simp only [zAbo, hkk]; exact h9.symm) dM_about_83
        · refine lv_iconst (v := 1) hx hb dM_about_78 (by decide) ?_
          refine lv_goto (tgt := 83) hx hb dM_about_79 (by decide) ?_
          exact grSi hC hr hlk rfl (by simp only [zAbo, hkk]; exact (bI_1 h9).symm) dM_about_83
      · refine lv_tableIn (tgt := 84) hx hb dM_about_14 (by decide) (by decide) rfl (by decide) ?_
        first | refine lv_aload_n hx hb dM_about_84 rfl (lv_at hl 0 rfl) ?_ | refine lv_aload_nN hx hb dM_about_84 rfl (lv_at hl 0 rfl) ?_
        refine gM_isRedone hC hH dM_about_85 ?_
        refine lv_iload_n hx hb dM_about_88 rfl (lv_at hl 1 rfl) ?_
        refine aM_z hC hH (by decide) (by assumption) dM_about_89 ?_
        rw [q.2.2.2.2.2.2.2.1]
        refine lv_if_eq  (tgt := 97) hx hb dM_about_90 (by decide) (fun h9 => ?_) (fun h9 => ?_)
        · refine lv_iconst (v := 0) hx hb dM_about_97 (by decide) ?_
          exact grSi hC hr hlk rfl (by simp only [zAbo, hkk]; exact h9.symm) dM_about_98
        · refine lv_iconst (v := 1) hx hb dM_about_93 (by decide) ?_
          refine lv_goto (tgt := 98) hx hb dM_about_94 (by decide) ?_
          exact grSi hC hr hlk rfl (by simp only [zAbo, hkk]; exact (bI_1 h9).symm) dM_about_98
      · refine lv_tableOut (tgt := 99) hx hb dM_about_14 hw (by decide) ?_
        refine lv_iconst (v := -1) hx hb dM_about_99 (by decide) ?_
        exact grSi hC hr hlk rfl (by simp only [zAbo, hkk]; rw [if_neg h0, if_neg h1, if_neg h2, if_neg h3, if_neg h4]) dM_about_100
    · exact absurd h (by decide)
  · have hkk : lk (nR x) v = none := lk_out (fun i hi => hv i (by rw [hnR]; exact hi))
    refine lv_if_ne  (tgt := 13) hx hb dM_about_8 (by decide) (fun h => ?_) (fun h => ?_)
    · exact absurd rfl h
    · refine lv_iconst (v := -1) hx hb dM_about_11 (by decide) ?_
      exact grSi hC hr hlk rfl (by simp only [zAbo, hkk]) dM_about_12
set_option maxHeartbeats 600000 in
set_option maxRecDepth 100000 in
theorem m_worker (hI : mR k x LL f) (v w : Int32) : Met l yM_worker (wz yM_worker bM_worker 3 (some .int)) (rmL 1 0 0) (gP D (mk_tys k) LL f sz [.ref (mO k), .int v, .int w]) (vp_Si (fun r => r = zWor x v w)) 0 0 (fun _ => False) := by
  refine gMetR (own := RX4) (u := x) (by decide) rfl hI (Nat.le_of_ble_eq_true rfl) ?_
  intro p e s m below meth c ls hC hr hlk hH hl
  obtain ⟨y, hR, hH⟩ := mR.out hH
  obtain ⟨hnT, hnW, hnR⟩ := hR.n
  have hok := hR.2.1
  have hb6 := hok.1.1
  have hb60 := hok.1.2.1
  have hb100 := hok.1.2.2
  have hx := hC.1
  have hb := hC.2.1
  have hml := hC.2.2.2.2.2
  have hts := hC.2.2.1
  have hown := hC.2.2.2.1
  have hl : lv_has ls 3 [(0, _), (1, _), (2, _)] := hl
  refine lv_iload_n hx hb dM_worker_0 rfl (lv_at hl 1 rfl) ?_
  first | refine lv_aload_n hx hb dM_worker_1 rfl (lv_at hl 0 rfl) ?_ | refine lv_aload_nN hx hb dM_worker_1 rfl (lv_at hl 0 rfl) ?_
  refine gM_workers hC hH dM_worker_2 ?_
  refine gcTi hC.fix hl.1 (m_in v (yW y) (by omega)) kM_96 ⟨Nat.le_of_ble_eq_true rfl, Nat.le_of_ble_eq_true rfl⟩ dM_worker_5 ⟨Nat.le_of_ble_eq_true rfl, Nat.le_of_ble_eq_true rfl⟩ rfl (Nat.le_of_ble_eq_true rfl) (fun r hr1 => ?_)
  rcases hr1 with ⟨i, hi, hv, rfl⟩ | ⟨hv, rfl⟩
  · have hi2 : i < nW x := by rw [← hnW]; exact hi
    have hi3 : i < 60 := by omega
    have hkk : lk (nW x) v = some i := by rw [hv]; exact lk_in hi2 (by omega)
    subst hv
    obtain ⟨q1, q2, q3, q4, q5, q6, q7, q8, q9, q10⟩ := hR.2.2.2.2.1 i hi2
    refine lv_if_ne  (tgt := 13) hx hb dM_worker_8 (by decide) (fun h => ?_) (fun h => ?_)
    · refine lv_iload_n hx hb dM_worker_13 rfl (lv_at hl 2 rfl) ?_
      rcases sw7 w with ⟨hw, rfl⟩ | ⟨hw, rfl⟩ | ⟨hw, rfl⟩ | ⟨hw, rfl⟩ | ⟨hw, rfl⟩ | ⟨hw, rfl⟩ | ⟨hw, rfl⟩ | ⟨hw, h0, h1, h2, h3, h4, h5, h6⟩
      · refine lv_tableIn (tgt := 56) hx hb dM_worker_14 (by decide) (by decide) rfl (by decide) ?_
        first | refine lv_aload_n hx hb dM_worker_56 rfl (lv_at hl 0 rfl) ?_ | refine lv_aload_nN hx hb dM_worker_56 rfl (lv_at hl 0 rfl) ?_
        refine gM_toolOf hC hH dM_worker_57 ?_
        refine lv_iload_n hx hb dM_worker_60 rfl (lv_at hl 1 rfl) ?_
        refine aM_i hC hH (by decide) (by assumption) dM_worker_61 ?_
        exact grSi hC hr hlk rfl (by simp only [zWor, hkk]; exact q1) dM_worker_62
      · refine lv_tableIn (tgt := 63) hx hb dM_worker_14 (by decide) (by decide) rfl (by decide) ?_
        first | refine lv_aload_n hx hb dM_worker_63 rfl (lv_at hl 0 rfl) ?_ | refine lv_aload_nN hx hb dM_worker_63 rfl (lv_at hl 0 rfl) ?_
        refine gM_state hC hH dM_worker_64 ?_
        refine lv_iload_n hx hb dM_worker_67 rfl (lv_at hl 1 rfl) ?_
        refine aM_i hC hH (by decide) (by assumption) dM_worker_68 ?_
        exact grSi hC hr hlk rfl (by simp only [zWor, hkk]; exact q2) dM_worker_69
      · refine lv_tableIn (tgt := 70) hx hb dM_worker_14 (by decide) (by decide) rfl (by decide) ?_
        first | refine lv_aload_n hx hb dM_worker_70 rfl (lv_at hl 0 rfl) ?_ | refine lv_aload_nN hx hb dM_worker_70 rfl (lv_at hl 0 rfl) ?_
        refine gM_finished hC hH dM_worker_71 ?_
        refine lv_iload_n hx hb dM_worker_74 rfl (lv_at hl 1 rfl) ?_
        refine aM_i hC hH (by decide) (by assumption) dM_worker_75 ?_
        exact grSi hC hr hlk rfl (by simp only [zWor, hkk]; exact q3) dM_worker_76
      · refine lv_tableIn (tgt := 77) hx hb dM_worker_14 (by decide) (by decide) rfl (by decide) ?_
        first | refine lv_aload_n hx hb dM_worker_77 rfl (lv_at hl 0 rfl) ?_ | refine lv_aload_nN hx hb dM_worker_77 rfl (lv_at hl 0 rfl) ?_
        refine gM_memory hC hH dM_worker_78 ?_
        refine lv_iload_n hx hb dM_worker_81 rfl (lv_at hl 1 rfl) ?_
        refine aM_i hC hH (by decide) (by assumption) dM_worker_82 ?_
        exact grSi hC hr hlk rfl (by simp only [zWor, hkk]; exact q4) dM_worker_83
      · refine lv_tableIn (tgt := 84) hx hb dM_worker_14 (by decide) (by decide) rfl (by decide) ?_
        first | refine lv_aload_n hx hb dM_worker_84 rfl (lv_at hl 0 rfl) ?_ | refine lv_aload_nN hx hb dM_worker_84 rfl (lv_at hl 0 rfl) ?_
        refine gM_state hC hH dM_worker_85 ?_
        refine lv_iload_n hx hb dM_worker_88 rfl (lv_at hl 1 rfl) ?_
        refine aM_i hC hH (by decide) (by assumption) dM_worker_89 ?_
        refine lv_iconst (v := 1) hx hb dM_worker_90 (by decide) ?_
        rw [q2]
        refine lv_icmp_ne  (tgt := 103) hx hb dM_worker_91 (by decide) (fun h9 => ?_) (fun h9 => ?_)
        · refine lv_iconst (v := -1) hx hb dM_worker_103 (by decide) ?_
          have hn : wRq (gW x i) = none := Classical.byContradiction (fun z => h9 (zSt_1.mpr ⟨Classical.byContradiction (fun z2 => z (q10 z2)), z⟩))
          exact grSi hC hr hlk rfl (by simp only [zWor, hkk, hn]; rfl) dM_worker_104
        · first | refine lv_aload_n hx hb dM_worker_94 rfl (lv_at hl 0 rfl) ?_ | refine lv_aload_nN hx hb dM_worker_94 rfl (lv_at hl 0 rfl) ?_
          refine gM_busyWith hC hH dM_worker_95 ?_
          refine lv_iload_n hx hb dM_worker_98 rfl (lv_at hl 1 rfl) ?_
          refine aM_i hC hH (by decide) (by assumption) dM_worker_99 ?_
          refine lv_goto (tgt := 104) hx hb dM_worker_100 (by decide) ?_
          rcases hn : wRq (gW x i) with _ | j
          · exact absurd hn (zSt_1.mp h9).2
          · exact grSi hC hr hlk rfl (by simp only [zWor, hkk, hn]; exact q5 j hn) dM_worker_104
      · refine lv_tableIn (tgt := 105) hx hb dM_worker_14 (by decide) (by decide) rfl (by decide) ?_
        first | refine lv_aload_n hx hb dM_worker_105 rfl (lv_at hl 0 rfl) ?_ | refine lv_aload_nN hx hb dM_worker_105 rfl (lv_at hl 0 rfl) ?_
        refine gM_why hC hH dM_worker_106 ?_
        refine lv_iload_n hx hb dM_worker_109 rfl (lv_at hl 1 rfl) ?_
        refine aM_i hC hH (by decide) (by assumption) dM_worker_110 ?_
        exact grSi hC hr hlk rfl (by simp only [zWor, hkk]; exact q6) dM_worker_111
      · refine lv_tableIn (tgt := 112) hx hb dM_worker_14 (by decide) (by decide) rfl (by decide) ?_
        first | refine lv_aload_n hx hb dM_worker_112 rfl (lv_at hl 0 rfl) ?_ | refine lv_aload_nN hx hb dM_worker_112 rfl (lv_at hl 0 rfl) ?_
        refine gM_trusted hC hH dM_worker_113 ?_
        refine lv_iload_n hx hb dM_worker_116 rfl (lv_at hl 1 rfl) ?_
        refine aM_i hC hH (by decide) (by assumption) dM_worker_117 ?_
        exact grSi hC hr hlk rfl (by simp only [zWor, hkk]; exact q7) dM_worker_118
      · refine lv_tableOut (tgt := 119) hx hb dM_worker_14 hw (by decide) ?_
        refine lv_iconst (v := -1) hx hb dM_worker_119 (by decide) ?_
        exact grSi hC hr hlk rfl (by simp only [zWor, hkk]; rw [if_neg h0, if_neg h1, if_neg h2, if_neg h3, if_neg h4, if_neg h5, if_neg h6]) dM_worker_120
    · exact absurd h (by decide)
  · have hkk : lk (nW x) v = none := lk_out (fun i hi => hv i (by rw [hnW]; exact hi))
    refine lv_if_ne  (tgt := 13) hx hb dM_worker_8 (by decide) (fun h => ?_) (fun h => ?_)
    · exact absurd rfl h
    · refine lv_iconst (v := -1) hx hb dM_worker_11 (by decide) ?_
      exact grSi hC hr hlk rfl (by simp only [zWor, hkk]) dM_worker_12
set_option maxHeartbeats 600000 in
set_option maxRecDepth 100000 in
theorem m_quirk (hI : mR k x LL f) (v w : Int32) : Met l yM_quirk (wz yM_quirk bM_quirk 3 (some .boolean)) (rmL 1 0 0) (gP D (mk_tys k) LL f sz [.ref (mO k), .int v, .int w]) (va_Qi (fun (r : Int32) (u : cs_S) => (u, r) = zQui x v w) (gB D (mk_tys k) (mR k) (va_A (va_pl LL f) sz)) (va_A (va_pl LL f) sz)) 0 0 (va_A (va_pl LL f) sz) := by
  refine gMet (own := RX4) (u := x) (Qc := fun A => va_Qi (fun (r : Int32) (u : cs_S) => (u, r) = zQui x v w) (gB D (mk_tys k) (mR k) A) A) (by decide) rfl hI (Nat.le_of_ble_eq_true rfl) ?_
  intro p e s m below meth c ls A hC hr hlk hnm hA hH hl
  obtain ⟨y, hR, hH⟩ := mR.out hH
  obtain ⟨hnT, hnW, hnR⟩ := hR.n
  have hok := hR.2.1
  have hb6 := hok.1.1
  have hb60 := hok.1.2.1
  have hb100 := hok.1.2.2
  have hx := hC.1
  have hb := hC.2.1
  have hml := hC.2.2.2.2.2
  have hts := hC.2.2.1
  have hown := hC.2.2.2.1
  have hl : lv_has ls 3 [(0, _), (1, _), (2, _)] := hl
  refine lv_iload_n hx hb dM_quirk_0 rfl (lv_at hl 1 rfl) ?_
  first | refine lv_aload_n hx hb dM_quirk_1 rfl (lv_at hl 0 rfl) ?_ | refine lv_aload_nN hx hb dM_quirk_1 rfl (lv_at hl 0 rfl) ?_
  refine gM_tools hC hH dM_quirk_2 ?_
  refine gcTi hC.fix hl.1 (m_in v (yT y) (by omega)) kM_96 ⟨Nat.le_of_ble_eq_true rfl, Nat.le_of_ble_eq_true rfl⟩ dM_quirk_5 ⟨Nat.le_of_ble_eq_true rfl, Nat.le_of_ble_eq_true rfl⟩ rfl (Nat.le_of_ble_eq_true rfl) (fun r hr1 => ?_)
  rcases hr1 with ⟨t, ht, hv, rfl⟩ | ⟨hv, rfl⟩
  · have ht2 : t < nT x := by rw [← hnT]; exact ht
    have ht3 : t < 6 := by omega
    have hkk : lk (nT x) v = some t := by rw [hv]; exact lk_in ht2 (by omega)
    subst hv
    refine lv_if_ne  (tgt := 13) hx hb dM_quirk_8 (by decide) (fun h => ?_) (fun h => ?_)
    · first | refine lv_aload_n hx hb dM_quirk_13 rfl (lv_at hl 0 rfl) ?_ | refine lv_aload_nN hx hb dM_quirk_13 rfl (lv_at hl 0 rfl) ?_
      refine gM_quirkOf hC hH dM_quirk_14 ?_
      refine lv_iload_n hx hb dM_quirk_17 rfl (lv_at hl 1 rfl) ?_
      refine lv_iload_n hx hb dM_quirk_18 rfl (lv_at hl 2 rfl) ?_
      refine sM_i hC hH (by decide) (by assumption) dM_quirk_19 (fun H locs hH => ?_)
      refine lv_iconst (v := 1) hx hb dM_quirk_20 (by decide) ?_
      have q := hR.2.2.2.1 t ht2
      have hR2 : Rel (sT x t (tQu_ (gT x t) w)) (sMI y 8 t w) := hR.upT (y' := sMI y 8 t w) (t := tQu_ (gT x t) w) ht2 ⟨rfl, rfl, rfl⟩ (fun a b hab => ⟨by rw [MI_sMI, if_neg (by omega)], rfl⟩) ⟨q.1, by simp [MI_sMI], (show MI (sMI y 8 t w) 9 t = MI y 9 t from by simp [MI_sMI]).trans q.2.2⟩
      exact grWi hC hr hlk rfl (mR.in hR2 hH) (by simp only [zQui, hkk]) dM_quirk_21
    · exact absurd h (by decide)
  · have hkk : lk (nT x) v = none := lk_out (fun i hi => hv i (by rw [hnT]; exact hi))
    refine lv_if_ne  (tgt := 13) hx hb dM_quirk_8 (by decide) (fun h => ?_) (fun h => ?_)
    · exact absurd rfl h
    · refine lv_iconst (v := 0) hx hb dM_quirk_11 (by decide) ?_
      exact grWi hC hr hlk rfl (mR.in hR hH) (by simp only [zQui, hkk]) dM_quirk_12
set_option maxHeartbeats 600000 in
set_option maxRecDepth 100000 in
theorem m_cancel (hI : mR k x LL f) (v : Int32) : Met l yM_cancel (wz yM_cancel bM_cancel 2 (some .int)) (rmL 1 0 0) (gP D (mk_tys k) LL f sz [.ref (mO k), .int v]) (va_Qi (fun (r : Int32) (u : cs_S) => (u, r) = zCan x v) (gB D (mk_tys k) (mR k) (va_A (va_pl LL f) sz)) (va_A (va_pl LL f) sz)) 0 0 (va_A (va_pl LL f) sz) := by
  refine gMet (own := RX4) (u := x) (Qc := fun A => va_Qi (fun (r : Int32) (u : cs_S) => (u, r) = zCan x v) (gB D (mk_tys k) (mR k) A) A) (by decide) rfl hI (Nat.le_of_ble_eq_true rfl) ?_
  intro p e s m below meth c ls A hC hr hlk hnm hA hH hl
  obtain ⟨y, hR, hH⟩ := mR.out hH
  obtain ⟨hnT, hnW, hnR⟩ := hR.n
  have hok := hR.2.1
  have hb6 := hok.1.1
  have hb60 := hok.1.2.1
  have hb100 := hok.1.2.2
  have hx := hC.1
  have hb := hC.2.1
  have hml := hC.2.2.2.2.2
  have hts := hC.2.2.1
  have hown := hC.2.2.2.1
  have hl : lv_has ls 2 [(0, _), (1, _)] := hl
  refine lv_iload_n hx hb dM_cancel_0 rfl (lv_at hl 1 rfl) ?_
  first | refine lv_aload_n hx hb dM_cancel_1 rfl (lv_at hl 0 rfl) ?_ | refine lv_aload_nN hx hb dM_cancel_1 rfl (lv_at hl 0 rfl) ?_
  refine gM_requests hC hH dM_cancel_2 ?_
  refine gcTi hC.fix hl.1 (m_in v (yR y) (by omega)) kM_96 ⟨Nat.le_of_ble_eq_true rfl, Nat.le_of_ble_eq_true rfl⟩ dM_cancel_5 ⟨Nat.le_of_ble_eq_true rfl, Nat.le_of_ble_eq_true rfl⟩ rfl (Nat.le_of_ble_eq_true rfl) (fun r hr1 => ?_)
  rcases hr1 with ⟨j, hj, hv, rfl⟩ | ⟨hv, rfl⟩
  · have hj2 : j < nR x := by rw [← hnR]; exact hj
    have hj3 : j < 100 := by omega
    have hkk : lk (nR x) v = some j := by rw [hv]; exact lk_in hj2 (by omega)
    subst hv
    have q := hR.2.2.2.2.2.1 j hj2
    have okj := hok.2.2 j hj2
    refine lv_if_ne  (tgt := 13) hx hb dM_cancel_8 (by decide) (fun h => ?_) (fun h => ?_)
    · first | refine lv_aload_n hx hb dM_cancel_13 rfl (lv_at hl 0 rfl) ?_ | refine lv_aload_nN hx hb dM_cancel_13 rfl (lv_at hl 0 rfl) ?_
      refine gM_kind hC hH dM_cancel_14 ?_
      refine lv_iload_n hx hb dM_cancel_17 rfl (lv_at hl 1 rfl) ?_
      refine aM_i hC hH (by decide) (by assumption) dM_cancel_18 ?_
      rw [q.2.2.1]
      refine lv_if_ne  (tgt := 31) hx hb dM_cancel_19 (by decide) (fun h2 => ?_) (fun h2 => ?_)
      · first | refine lv_aload_n hx hb dM_cancel_31 rfl (lv_at hl 0 rfl) ?_ | refine lv_aload_nN hx hb dM_cancel_31 rfl (lv_at hl 0 rfl) ?_
        refine gM_kind hC hH dM_cancel_32 ?_
        refine lv_iload_n hx hb dM_cancel_35 rfl (lv_at hl 1 rfl) ?_
        refine aM_i hC hH (by decide) (by assumption) dM_cancel_36 ?_
        refine lv_iconst (v := 1) hx hb dM_cancel_37 (by decide) ?_
        rw [q.2.2.1]
        refine lv_icmp_eq  (tgt := 43) hx hb dM_cancel_38 (by decide) (fun h3 => ?_) (fun h3 => ?_)
        · first | refine lv_aload_n hx hb dM_cancel_43 rfl (lv_at hl 0 rfl) ?_ | refine lv_aload_nN hx hb dM_cancel_43 rfl (lv_at hl 0 rfl) ?_
          refine gM_isUnwanted hC hH dM_cancel_44 ?_
          refine lv_iload_n hx hb dM_cancel_47 rfl (lv_at hl 1 rfl) ?_
          refine lv_iconst (v := 1) hx hb dM_cancel_48 (by decide) ?_
          refine sM_z hC hH rfl (by decide) (by assumption) dM_cancel_49 (fun H locs hH => ?_)
          refine lv_iconst (v := 2) hx hb dM_cancel_50 (by decide) ?_
          obtain ⟨q1, q2, q3, q4, q5, q6, q7, q8, q9, q10, q11⟩ := q
          have hR2 : Rel (sR x j (rUn_ (gR x j) true)) (sMI y 25 j 1) := hR.upR hj2 (fr.rf.iR 25 1 (by decide)) ⟨(show MI (sMI y 25 j 1) 19 j = MI y 19 j from by simp [MI_sMI, ML_sML, MI_sML, ML_sMI]).trans q1, (show MI (sMI y 25 j 1) 20 j = MI y 20 j from by simp [MI_sMI, ML_sML, MI_sML, ML_sMI]).trans q2, (show MI (sMI y 25 j 1) 21 j = MI y 21 j from by simp [MI_sMI, ML_sML, MI_sML, ML_sMI]).trans q3, (show MI (sMI y 25 j 1) 22 j = MI y 22 j from by simp [MI_sMI, ML_sML, MI_sML, ML_sMI]).trans q4, fun z1 z2 => (show MI (sMI y 25 j 1) 23 j = MI y 23 j from by simp [MI_sMI, ML_sML, MI_sML, ML_sMI]).trans (q5 z1 z2), (show MI (sMI y 25 j 1) 24 j = MI y 24 j from by simp [MI_sMI, ML_sML, MI_sML, ML_sMI]).trans q6, by simp [MI_sMI, bI], (show MI (sMI y 25 j 1) 26 j = MI y 26 j from by simp [MI_sMI, ML_sML, MI_sML, ML_sMI]).trans q8, (show ML (sMI y 25 j 1) 27 j = ML y 27 j from by simp [MI_sMI, ML_sML, MI_sML, ML_sMI]).trans q9, (show ML (sMI y 25 j 1) 28 j = ML y 28 j from by simp [MI_sMI, ML_sML, MI_sML, ML_sMI]).trans q10, fun z => absurd z h2⟩ okj (Or.inl ⟨rfl, rfl⟩)
          exact grWi hC hr hlk rfl (mR.in hR2 hH) (by simp only [zCan, hkk]; rw [if_neg h2, if_pos h3]) dM_cancel_51
        · refine lv_iconst (v := 0) hx hb dM_cancel_41 (by decide) ?_
          exact grWi hC hr hlk rfl (mR.in hR hH) (by simp only [zCan, hkk]; rw [if_neg h2, if_neg h3]) dM_cancel_42
      · first | refine lv_aload_n hx hb dM_cancel_22 rfl (lv_at hl 0 rfl) ?_ | refine lv_aload_nN hx hb dM_cancel_22 rfl (lv_at hl 0 rfl) ?_
        refine gM_kind hC hH dM_cancel_23 ?_
        refine lv_iload_n hx hb dM_cancel_26 rfl (lv_at hl 1 rfl) ?_
        refine lv_iconst (v := 3) hx hb dM_cancel_27 (by decide) ?_
        refine sM_i hC hH (by decide) (by assumption) dM_cancel_28 (fun H locs hH => ?_)
        refine lv_iconst (v := 1) hx hb dM_cancel_29 (by decide) ?_
        obtain ⟨q1, q2, q3, q4, q5, q6, q7, q8, q9, q10, q11⟩ := q
        have q12 := q11 h2
        have hR2 : Rel (sR x j (qCan (gR x j))) (sMI y 21 j 3) := hR.upR hj2 (fr.rf.iR 21 3 (by decide)) ⟨(show MI (sMI y 21 j 3) 19 j = MI y 19 j from by simp [MI_sMI, ML_sML, MI_sML, ML_sMI]).trans q1, (show MI (sMI y 21 j 3) 20 j = MI y 20 j from by simp [MI_sMI, ML_sML, MI_sML, ML_sMI]).trans q2, by simp [MI_sMI]; rfl, (show MI (sMI y 21 j 3) 22 j = MI y 22 j from by simp [MI_sMI]).trans (q4.trans (by rw [q12.1]; rfl)), fun z => absurd (show (3 : Int32) = 2 from z) (by decide), (show MI (sMI y 21 j 3) 24 j = MI y 24 j from by simp [MI_sMI, ML_sML, MI_sML, ML_sMI]).trans q6, (show MI (sMI y 21 j 3) 25 j = MI y 25 j from by simp [MI_sMI]).trans (q7.trans (by rw [q12.2]; rfl)), (show MI (sMI y 21 j 3) 26 j = MI y 26 j from by simp [MI_sMI, ML_sML, MI_sML, ML_sMI]).trans q8, (show ML (sMI y 21 j 3) 27 j = ML y 27 j from by simp [MI_sMI, ML_sML, MI_sML, ML_sMI]).trans q9, (show ML (sMI y 21 j 3) 28 j = ML y 28 j from by simp [MI_sMI, ML_sML, MI_sML, ML_sMI]).trans q10, fun z => absurd (show (3 : Int32) = 0 from z) (by decide)⟩ ⟨okj.1, fun a z => by cases z⟩ (Or.inr (hR.noW (by rw [h2]; decide)))
        exact grWi hC hr hlk rfl (mR.in hR2 hH) (by simp only [zCan, hkk]; rw [if_pos h2]) dM_cancel_30
    · exact absurd h (by decide)
  · have hkk : lk (nR x) v = none := lk_out (fun i hi => hv i (by rw [hnR]; exact hi))
    refine lv_if_ne  (tgt := 13) hx hb dM_cancel_8 (by decide) (fun h => ?_) (fun h => ?_)
    · exact absurd rfl h
    · refine lv_iconst (v := -1) hx hb dM_cancel_11 (by decide) ?_
      exact grWi hC hr hlk rfl (mR.in hR hH) (by simp only [zCan, hkk]) dM_cancel_12
end M2
end
section
/-! ONE MORE of each; what the reference's searches find -/
section RL2
variable {x : cs_S} {y y' : ms_S} {i j : Nat}
theorem RW.cg {w : cs_W} (h : RW w y i) (e1 : ∀ a, 10 ≤ a → MI y' a i = MI y a i) (e2 : ∀ a, 10 ≤ a → ML y' a i = ML y a i) : RW w y' i := by
  unfold RW at h ⊢
  simpa only [e1 10 (by decide), e1 11 (by decide), e1 12 (by decide), e1 13 (by decide), e1 14 (by decide), e1 15 (by decide), e1 16 (by decide), e1 17 (by decide), e2 18 (by decide)] using h
theorem RR.cg {r : cs_R} (h : RR r y j) (e1 : ∀ a, 19 ≤ a → MI y' a j = MI y a j) (e2 : ∀ a, 19 ≤ a → ML y' a j = ML y a j) : RR r y' j := by
  unfold RR at h ⊢
  simpa only [e1 19 (by decide), e1 20 (by decide), e1 21 (by decide), e1 22 (by decide), e1 23 (by decide), e1 24 (by decide), e1 25 (by decide), e1 26 (by decide), e2 27 (by decide), e2 28 (by decide)] using h
theorem Rel.pushT (h : Rel x y) (hn : nT x < 6) (ed : Int64) (qu : Int32) : Rel (aT x (ed, qu, 0)) (sYT (sMI (sMI (sML y 7 (yT y) ed) 8 (yT y) qu) 9 (yT y) 0) (yT y + 1)) := by
  have hn1 := h.n
  obtain ⟨h1, h2, h3, h4, h5, h6, h7, h8, h9⟩ := id h
  have e1 : ∀ a b, 10 ≤ a → MI (sYT (sMI (sMI (sML y 7 (yT y) ed) 8 (yT y) qu) 9 (yT y) 0) (yT y + 1)) a b = MI y a b := fun a b ha => by
    show MI (sMI (sMI (sML y 7 (yT y) ed) 8 (yT y) qu) 9 (yT y) 0) a b = _
    rw [MI_sMI, if_neg (by omega), MI_sMI, if_neg (by omega)]
  have e2 : ∀ a b, 10 ≤ a → ML (sYT (sMI (sMI (sML y 7 (yT y) ed) 8 (yT y) qu) 9 (yT y) 0) (yT y + 1)) a b = ML y a b := fun a b ha => by
    show ML (sML y 7 (yT y) ed) a b = _
    rw [ML_sML, if_neg (by omega)]
  refine ⟨⟨h1.1, h1.2.1, by show (yT y + 1, yW y, yR y) = _; rw [hn1.1, hn1.2.1, hn1.2.2]⟩, ⟨⟨hn, h2.1.2⟩, fun i hi => ⟨Nat.lt_succ_of_lt (h2.2.1 i hi).1, (h2.2.1 i hi).2⟩, fun i hi => ⟨Nat.lt_succ_of_lt (h2.2.2 i hi).1, (h2.2.2 i hi).2⟩⟩, h3, fun a ha => ?_, fun a ha => (h5 a ha).cg (fun b hb => e1 b a hb) (fun b hb => e2 b a hb), fun a ha => (h6 a ha).cg (fun b hb => e1 b a (by omega)) (fun b hb => e2 b a (by omega)), h7, fun a q1 q2 => ?_, fun a q1 q2 => ?_⟩
  · by_cases e : a = nT x
    · subst e
      rw [gT_new]
      refine ⟨?_, ?_, ?_⟩
      · show ML (sML y 7 (yT y) ed) 7 (nT x) = ed
        rw [ML_sML, if_pos ⟨rfl, hn1.1.symm⟩]
      · show MI (sMI (sMI (sML y 7 (yT y) ed) 8 (yT y) qu) 9 (yT y) 0) 8 (nT x) = qu
        rw [MI_sMI, if_neg (by omega), MI_sMI, if_pos ⟨rfl, hn1.1.symm⟩]
      · show MI (sMI (sMI (sML y 7 (yT y) ed) 8 (yT y) qu) 9 (yT y) 0) 9 (nT x) = 0
        rw [MI_sMI, if_pos ⟨rfl, hn1.1.symm⟩]
    · rw [gT_old _ _ e]
      have q := h4 a (by have : a < nT x + 1 := ha; omega)
      have e3 : a ≠ yT y := by rw [hn1.1]; exact e
      refine ⟨?_, ?_, ?_⟩
      · show ML (sML y 7 (yT y) ed) 7 a = _
        rw [ML_sML, if_neg (fun z => e3 z.2)]
        exact q.1
      · show MI (sMI (sMI (sML y 7 (yT y) ed) 8 (yT y) qu) 9 (yT y) 0) 8 a = _
        rw [MI_sMI, if_neg (by omega), MI_sMI, if_neg (fun z => e3 z.2)]
        exact q.2.1
      · show MI (sMI (sMI (sML y 7 (yT y) ed) 8 (yT y) qu) 9 (yT y) 0) 9 a = _
        rw [MI_sMI, if_neg (fun z => e3 z.2), MI_sMI, if_neg (by omega)]
        exact q.2.2
  · simpa only [e1 11 a (by decide), e1 12 a (by decide), e1 13 a (by decide), e1 15 a (by decide), e1 16 a (by decide), e1 17 a (by decide)] using h8 a q1 q2
  · simpa only [e1 24 a (by decide), e1 25 a (by decide), e1 26 a (by decide), e2 28 a (by decide)] using h9 a q1 q2
theorem Rel.pushW (h : Rel x y) (hn : nW x < 60) {t : Nat} (ht : t < nT x) : Rel (aW x (t, tEd (gT x t), 0, 0, 0, 0, 0, none)) (yNew y t) := by
  have hn1 := h.n
  obtain ⟨h1, h2, h3, h4, h5, h6, h7, h8, h9⟩ := id h
  have e1 : ∀ a b, ¬ (a = 10 ∧ b = nW x) → MI (yNew y t) a b = MI y a b := fun a b ha => by
    show MI (sMI y 10 (yW y) (nI t)) a b = _
    rw [MI_sMI, hn1.2.1, if_neg ha]
  have e2 : ∀ a b, ¬ (a = 18 ∧ b = nW x) → ML (yNew y t) a b = ML y a b := fun a b ha => by
    show ML (sML (sMI y 10 (yW y) (nI t)) 18 (yW y) (ML y 7 t)) a b = _
    rw [ML_sML, hn1.2.1, if_neg ha]
  have e3 : MI (yNew y t) 10 (nW x) = nI t := by
    show MI (sMI y 10 (yW y) (nI t)) 10 (nW x) = _
    rw [MI_sMI, hn1.2.1, if_pos ⟨rfl, rfl⟩]
  have e4 : ML (yNew y t) 18 (nW x) = tEd (gT x t) := by
    show ML (sML (sMI y 10 (yW y) (nI t)) 18 (yW y) (ML y 7 t)) 18 (nW x) = _
    rw [ML_sML, hn1.2.1, if_pos ⟨rfl, rfl⟩]
    exact (h4 t ht).1
  refine ⟨⟨h1.1, h1.2.1, by show (yT y, yW y + 1, yR y) = _; rw [hn1.1, hn1.2.1, hn1.2.2]⟩, ⟨⟨h2.1.1, hn, h2.1.2.2⟩, fun a ha => ?_, fun a ha => ⟨(h2.2.2 a ha).1, fun b hb => Nat.lt_succ_of_lt ((h2.2.2 a ha).2 b hb)⟩⟩, h3, fun a ha => ?_, fun a ha => ?_, fun a ha => ?_, fun a b ha hb => ?_, fun a q1 q2 => ?_, fun a q1 q2 => ?_⟩
  · by_cases e : a = nW x
    · subst e
      rw [gW_new]
      exact ⟨ht, fun b hb => by cases hb⟩
    · rw [gW_old _ _ e]
      exact h2.2.1 a (by have : a < nW x + 1 := ha; omega)
  · have q := h4 a ha
    exact ⟨by rw [e2 _ _ (by omega)]; exact q.1, by rw [e1 _ _ (by omega)]; exact q.2.1, by rw [e1 _ _ (by omega)]; exact q.2.2⟩
  · by_cases e : a = nW x
    · subst e
      rw [gW_new]
      have q := h8 (nW x) (Nat.le_refl _) hn
      exact ⟨e3, by rw [e1 _ _ (by omega)]; exact q.1, by rw [e1 _ _ (by omega)]; exact q.2.1, by rw [e1 _ _ (by omega)]; exact q.2.2.1, fun b hb => (by cases hb), by rw [e1 _ _ (by omega)]; exact q.2.2.2.1, by rw [e1 _ _ (by omega)]; exact q.2.2.2.2.1, fun _ => by rw [e1 _ _ (by omega)]; exact q.2.2.2.2.2, e4, fun _ => rfl⟩
    · rw [gW_old _ _ e]
      exact (h5 a (by have : a < nW x + 1 := ha; omega)).cg (fun b _ => e1 b a (by omega)) (fun b _ => e2 b a (by omega))
  · exact (h6 a ha).cg (fun b _ => e1 b a (by omega)) (fun b _ => e2 b a (by omega))
  · by_cases e : a = nW x
    · subst e
      rw [gW_new] at hb
      cases hb
    · rw [gW_old _ _ e] at hb
      exact h7 a b (by have : a < nW x + 1 := ha; omega) hb
  · have q1 : nW x + 1 ≤ a := q1
    have q := h8 a (by omega) q2
    exact ⟨by rw [e1 _ _ (by omega)]; exact q.1, by rw [e1 _ _ (by omega)]; exact q.2.1, by rw [e1 _ _ (by omega)]; exact q.2.2.1, by rw [e1 _ _ (by omega)]; exact q.2.2.2.1, by rw [e1 _ _ (by omega)]; exact q.2.2.2.2.1, by rw [e1 _ _ (by omega)]; exact q.2.2.2.2.2⟩
  · have q := h9 a q1 q2
    exact ⟨by rw [e1 _ _ (by omega)]; exact q.1, by rw [e1 _ _ (by omega)]; exact q.2.1, by rw [e1 _ _ (by omega)]; exact q.2.2.1, by rw [e2 _ _ (by omega)]; exact q.2.2.2⟩
theorem Rel.pushR (h : Rel x y) (hn : nR x < 100) {t : Nat} (ht : t < nT x) (inp : Int64) (z : Int32) : Rel (aR x (t, inp, z, 0, 0, false, false, 0, none, 0)) (sYR (sMI (sMI (sMI (sML (sMI y 19 (yR y) (nI t)) 27 (yR y) inp) 20 (yR y) z) 21 (yR y) 0) 22 (yR y) (-1)) (yR y + 1)) := by
  have hn1 := h.n
  obtain ⟨h1, h2, h3, h4, h5, h6, h7, h8, h9⟩ := id h
  generalize hy : sYR (sMI (sMI (sMI (sML (sMI y 19 (yR y) (nI t)) 27 (yR y) inp) 20 (yR y) z) 21 (yR y) 0) 22 (yR y) (-1)) (yR y + 1) = y1
  have eI : ∀ a b, MI y1 a b = if a = 22 ∧ b = nR x then -1 else if a = 21 ∧ b = nR x then 0 else if a = 20 ∧ b = nR x then z else if a = 19 ∧ b = nR x then nI t else MI y a b := fun a b => by
    rw [← hy]
    show MI (sMI (sMI (sMI (sML (sMI y 19 (yR y) (nI t)) 27 (yR y) inp) 20 (yR y) z) 21 (yR y) 0) 22 (yR y) (-1)) a b = _
    rw [MI_sMI, MI_sMI, MI_sMI, MI_sML, MI_sMI, hn1.2.2]
  have eL : ∀ a b, ML y1 a b = if a = 27 ∧ b = nR x then inp else ML y a b := fun a b => by
    rw [← hy]
    show ML (sML (sMI y 19 (yR y) (nI t)) 27 (yR y) inp) a b = _
    rw [ML_sML, hn1.2.2]
  have e1 : ∀ a b, (a < 19 ∨ 23 ≤ a ∨ b ≠ nR x) → MI y1 a b = MI y a b := fun a b ha => by
    rw [eI, if_neg (by omega), if_neg (by omega), if_neg (by omega), if_neg (by omega)]
  have e2 : ∀ a b, (a ≠ 27 ∨ b ≠ nR x) → ML y1 a b = ML y a b := fun a b ha => by
    rw [eL, if_neg (by omega)]
  refine ⟨by rw [← hy]; exact ⟨h1.1, h1.2.1, by show (yT y, yW y, yR y + 1) = _; rw [hn1.1, hn1.2.1, hn1.2.2]⟩, ⟨⟨h2.1.1, h2.1.2.1, hn⟩, fun a ha => ⟨(h2.2.1 a ha).1, fun b hb => Nat.lt_succ_of_lt ((h2.2.1 a ha).2 b hb)⟩, fun a ha => ?_⟩, h3, fun a ha => ?_, fun a ha => ?_, fun a ha => ?_, fun a b ha hb => ?_, fun a q1 q2 => ?_, fun a q1 q2 => ?_⟩
  · by_cases e : a = nR x
    · subst e
      rw [gR_new]
      exact ⟨ht, fun b hb => by cases hb⟩
    · rw [gR_old _ _ e]
      exact h2.2.2 a (by have : a < nR x + 1 := ha; omega)
  · have q := h4 a ha
    exact ⟨by rw [e2 _ _ (by omega)]; exact q.1, by rw [e1 _ _ (by omega)]; exact q.2.1, by rw [e1 _ _ (by omega)]; exact q.2.2⟩
  · have q := h5 a ha
    unfold RW at q ⊢
    simpa only [e1 10 a (by omega), e1 11 a (by omega), e1 12 a (by omega), e1 13 a (by omega), e1 14 a (by omega), e1 15 a (by omega), e1 16 a (by omega), e1 17 a (by omega), e2 18 a (by omega)] using q
  · by_cases e : a = nR x
    · subst e
      rw [gR_new]
      have q := h9 (nR x) (Nat.le_refl _) hn
      exact ⟨by rw [eI]; simp, by rw [eI]; simp, by rw [eI]; simp, by rw [eI]; simp [oI], fun z1 => absurd (show (0 : Int32) = 2 from z1) (by decide), by rw [e1 _ _ (by omega)]; exact q.1, by rw [e1 _ _ (by omega)]; exact q.2.1, by rw [e1 _ _ (by omega)]; exact q.2.2.1, by rw [eL]; simp, by rw [e2 _ _ (by omega)]; exact q.2.2.2, fun _ => ⟨rfl, rfl⟩⟩
    · rw [gR_old _ _ e]
      exact (h6 a (by have : a < nR x + 1 := ha; omega)).cg (fun b _ => e1 b a (by omega)) (fun b _ => e2 b a (by omega))
  · have q := h7 a b ha hb
    have hb2 := (h2.2.1 a ha).2 b hb
    rw [gR_old _ _ (Nat.ne_of_lt hb2)]
    exact q
  · have q := h8 a q1 q2
    exact ⟨by rw [e1 _ _ (by omega)]; exact q.1, by rw [e1 _ _ (by omega)]; exact q.2.1, by rw [e1 _ _ (by omega)]; exact q.2.2.1, by rw [e1 _ _ (by omega)]; exact q.2.2.2.1, by rw [e1 _ _ (by omega)]; exact q.2.2.2.2.1, by rw [e1 _ _ (by omega)]; exact q.2.2.2.2.2⟩
  · have q1 : nR x + 1 ≤ a := q1
    have q := h9 a (by omega) q2
    exact ⟨by rw [e1 _ _ (by omega)]; exact q.1, by rw [e1 _ _ (by omega)]; exact q.2.1, by rw [e1 _ _ (by omega)]; exact q.2.2.1, by rw [e2 _ _ (by omega)]; exact q.2.2.2⟩
def ff2 (x : cs_S) (t : Nat) : Nat → Option Nat
  | 0 => none
  | n + 1 => match ff2 x t n with
    | some i => some i
    | none => if n < nW x ∧ wTo (gW x n) = t ∧ zSt (gW x n) = 0 then some n else none
theorem ffr_ff2 (x : cs_S) (t : Nat) : ∀ m i, ff2 x t (i + m) = (match ff2 x t i with | some a => some a | none => ffr x t m i)
  | 0, i => by
    rw [Nat.add_zero]
    cases ff2 x t i <;> rfl
  | m + 1, i => by
    rw [show i + (m + 1) = (i + 1) + m by omega, ffr_ff2 x t m (i + 1)]
    show (match (match ff2 x t i with | some i => some i | none => if i < nW x ∧ wTo (gW x i) = t ∧ zSt (gW x i) = 0 then some i else none) with | some a => some a | none => ffr x t m (i + 1)) = _
    cases ff2 x t i with
    | some a => rfl
    | none =>
      show _ = if i < nW x ∧ wTo (gW x i) = t ∧ zSt (gW x i) = 0 then some i else ffr x t m (i + 1)
      by_cases q : i < nW x ∧ wTo (gW x i) = t ∧ zSt (gW x i) = 0
      · simp only [if_pos q]
      · simp only [if_neg q]
theorem ff2_60 (x : cs_S) (t : Nat) : ∀ m, ff2 x t (nW x + m) = ff2 x t (nW x)
  | 0 => rfl
  | m + 1 => by
    have ih := ff2_60 x t m
    show (match ff2 x t (nW x + m) with | some i => some i | none => _) = _
    rw [ih]
    cases ff2 x t (nW x) with
    | some a => rfl
    | none => exact if_neg (fun q => absurd q.1 (Nat.not_lt.mpr (Nat.le_add_right _ _)))
theorem Rel.col10 (h : Rel x y) {n t : Nat} (hn : n < nW x) (ht : t < 100) : MI y 10 n = nI t ↔ wTo (gW x n) = t := by
  rw [(h.2.2.2.2.1 n hn).1]
  have := (h.2.1.2.1 n hn).1
  have := h.2.1.1.1
  exact nI_eq (by omega) (by omega)
theorem Rel.free (h : Rel x y) {t : Nat} (ht : t < 100) : ∀ n a, n ≤ nW x → yFr y (nI t) n a = (match ff2 x t n with | some i => nI i | none => a)
  | 0, a, _ => rfl
  | n + 1, a, hn => by
    show yFr y (nI t) n (if MI y 10 n = nI t ∧ MI y 11 n = 0 then nI n else a) = _
    rw [h.free ht n _ (by omega)]
    show _ = (match (match ff2 x t n with | some i => some i | none => if n < nW x ∧ wTo (gW x n) = t ∧ zSt (gW x n) = 0 then some n else none) with | some i => nI i | none => a)
    have e : (MI y 10 n = nI t ∧ MI y 11 n = 0) ↔ (n < nW x ∧ wTo (gW x n) = t ∧ zSt (gW x n) = 0) := by
      rw [h.col10 hn ht, (h.2.2.2.2.1 n hn).2.1]
      exact ⟨fun q => ⟨hn, q⟩, fun q => q.2⟩
    cases ff2 x t n with
    | some i => rfl
    | none =>
      by_cases q : n < nW x ∧ wTo (gW x n) = t ∧ zSt (gW x n) = 0
      · simp only [if_pos q, if_pos (e.mpr q)]
      · simp only [if_neg q, if_neg (fun z => q (e.mp z))]
theorem Rel.freeOne (h : Rel x y) {t : Nat} (ht : t < nT x) : yFr y (nI t) (yW y) (-1) = oI (ffr x t 60 0) := by
  have hb := h.2.1.1
  rw [h.n.2.1, h.free (by omega) _ _ (Nat.le_refl _)]
  have e := ffr_ff2 x t 60 0
  rw [Nat.zero_add] at e
  have e2 := ff2_60 x t (60 - nW x)
  rw [show nW x + (60 - nW x) = 60 by omega] at e2
  have e3 : ffr x t 60 0 = ff2 x t (nW x) := by rw [← e2, e]; rfl
  rw [e3]
  cases ff2 x t (nW x) <;> rfl
theorem cst_60 (x : cs_S) (t : Nat) : ∀ m, cst x t (nW x + m) = cst x t (nW x)
  | 0 => rfl
  | m + 1 => by
    show (if nW x + m < nW x ∧ _ then _ else cst x t (nW x + m)) = _
    rw [if_neg (fun q => by omega)]
    exact cst_60 x t m
theorem Rel.al (h : Rel x y) {t : Nat} (ht : t < 100) : ∀ n, n ≤ nW x → yAl y (nI t) n = cst x t n
  | 0, _ => rfl
  | n + 1, hn => by
    show (if MI y 10 n = nI t ∧ ¬ MI y 11 n = 2 then yAl y (nI t) n + 1 else yAl y (nI t) n) = (if n < nW x ∧ wTo (gW x n) = t ∧ wEn (gW x n) = 0 then cst x t n + 1 else cst x t n)
    rw [h.al ht n (by omega)]
    have e : (MI y 10 n = nI t ∧ ¬ MI y 11 n = 2) ↔ (n < nW x ∧ wTo (gW x n) = t ∧ wEn (gW x n) = 0) := by
      rw [h.col10 hn ht, (h.2.2.2.2.1 n hn).2.1, zSt_2, Classical.not_not]
      exact ⟨fun q => ⟨hn, q⟩, fun q => q.2⟩
    by_cases q : n < nW x ∧ wTo (gW x n) = t ∧ wEn (gW x n) = 0
    · rw [if_pos q, if_pos (e.mpr q)]
    · rw [if_neg q, if_neg (fun z => q (e.mp z))]
theorem Rel.alive (h : Rel x y) {t : Nat} (ht : t < nT x) : yAl y (nI t) (yW y) = cst x t 60 := by
  have hb := h.2.1.1
  rw [h.n.2.1, h.al (by omega) _ (Nat.le_refl _)]
  have e2 := cst_60 x t (60 - nW x)
  rw [show nW x + (60 - nW x) = 60 by omega] at e2
  exact e2.symm
end RL2
end
section
section M3
theorem gcWViE {p : Program} {l : Launch} {e : Env} {R : Room} {s : State} {m : MethodId} {args : Array Value} {below : List Frame} {meth : Method} {c : Code} {H : Heap} {locs : List Loc} {cells slots : Nat} {Q : State → Prop} {cc : ByteArray} {pc : Nat} {ls : Array Slot} {rest st : List Value} {D : va_G} {A : Nat → Prop} {tys : List (ClassId × FieldType)} {H0 : Heap} {own : String} {nL : Nat} {σ : Type} {I : σ → List Nat → (Nat → va_E) → Prop} {u : σ} {y : MethodName} {b : ByteArray} {n dp idx mc ms : Nat} {r : Option FieldType} {av : List Value} {post : Int32 → σ → Prop} {a ci : Nat} {q : vw_C} (hC : gX own tys D p s m args c cc nL) (hls : ls.size = nL) (hA : ∀ q, H0.size ≤ q → A q) (hH : gH D I u A H0 H locs) (M : ∀ LL f sz, I u LL f → Met l y (wz y b n r) (rmL dp mc ms) (gP D tys LL f sz (.ref a :: av)) (va_Qi post (gB D tys I (va_A (va_pl LL f) sz)) (va_A (va_pl LL f) sz)) mc ms (va_A (va_pl LL f) sz)) (ha : ∀ LL f, I u LL f → ∃ fs, a ∈ LL ∧ f a = .inr (ci, fs)) (hc : vwCl[ci]? = some q) (hq : q.1 = y.cls) (hk : gKV own idx y b n r av.length) (hR : dp + 1 ≤ R.frames ∧ 8 + (n + 11) + 34 * dp ≤ R.locals) (hdg : decode cc pc = .ok (.invokevirtual idx, 3)) (hcs : cells + mc ≤ R.cells ∧ slots + ms ≤ R.slots) (hst : st = av.reverse ++ .ref a :: rest) (hcat : (rest.map fun v => v.category).sum ≤ 8) (kk : ∀ (v : Int32) (u' : σ) (H1 : Heap) (locs1 : List Loc), post v u' → gH D I u' A H0 H1 locs1 → W p l e R s m args below meth c H1 locs1 (cells + mc) (slots + ms) Q (F0 m (pc + 3) ls (.int v :: rest))) : W p l e R s m args below meth c H locs cells slots Q (F0 m pc ls st) := by
  obtain ⟨LL, f, hI, hP, hD, hS⟩ := hH
  have hF := gH.free hD hS hA
  obtain ⟨fs, ha1, ha2⟩ := ha LL f hI
  have hr := pw_recv hC.2.2.2.2.1 hP ha1 ha2 hc
  rw [hq] at hr
  exact va_calli (va_runV (C := y.cls) (As := av) hC.fix (M LL f H.size hI) ⟨hk.1.B hC.2.2.1 hR, hC.2.2.1 _ hk.2.1, hC.2.2.1 _ hk.2.2⟩ ⟨gP_blind, hr, fun U hU hW => gP_pre hC.2.2.2.2.1 hP hD hU hW⟩ rfl rfl hls hst (lv_room hcat) hdg hcs) hS (fun q _ h => hF q h) hF (fun v u' t H1 locs1 ht hvm hp hB hz hk1 hS1 => kk v u' H1 locs1 hp (gH.back hB ht hF hS1))
theorem mR.o {k : mk_F} {x : cs_S} : ∀ LL f, mR k x LL f → ∃ fs, mO k ∈ LL ∧ f (mO k) = .inr (4, fs) := fun LL f h => by
  obtain ⟨y, -, h2⟩ := h
  exact ⟨_, h2.1⟩
theorem ffr_ok {x : cs_S} {t : Nat} : ∀ (n i a : Nat), ffr x t n i = some a → a < nW x ∧ zSt (gW x a) = 0
  | 0, i, a, h => by cases h
  | n + 1, i, a, h => by
    unfold ffr at h
    split at h
    · next q => cases h; exact ⟨q.1, q.2.2⟩
    · exact ffr_ok n (i + 1) a h
theorem Rel.begin {x : cs_S} {y : ms_S} {i j : Nat} (h : Rel x y) (hi : i < nW x) (hj : j < nR x) (hz : zSt (gW x i) = 0) (hs : rSt (gR x j) = 0) : Rel (zBegin x j i) (sMI (sMI (sMI (sMI (sMI y 11 i 1) 14 i (nI j)) 21 j 1) 22 j (nI i)) 24 j (MI (sMI (sMI (sMI (sMI y 11 i 1) 14 i (nI j)) 21 j 1) 22 j (nI i)) 24 j + 1)) := by
  have hz2 := zSt_0.mp hz
  have hz3 : zSt (wRq_ (gW x i) (some j)) = 1 := zSt_1.mpr ⟨hz2.1, fun q => by cases q⟩
  have okj := h.2.1.2.2 j hj
  have oki := h.2.1.2.1 i hi
  refine h.upWR hi hj (((((fr.rf.iW 11 1 (by decide)).iW 14 (nI j) (by decide)).iR 21 1 (by decide)).iR 22 (nI i) (by decide)).iR 24 _ (by decide)) ?_ ?_ ⟨oki.1, fun a ha => by cases ha; exact hj⟩ ⟨okj.1, fun a ha => by cases ha; exact hi⟩ (fun a ha => by cases ha; exact ⟨rfl, rfl, rfl⟩) (fun a _ ha => h.noW (by rw [hs]; decide) a ha)
  · obtain ⟨q1, q2, q3, q4, q5, q6, q7, q8, q9, q10⟩ := h.2.2.2.2.1 i hi
    exact ⟨(show MI (sMI (sMI (sMI (sMI (sMI y 11 i 1) 14 i (nI j)) 21 j 1) 22 j (nI i)) 24 j (MI (sMI (sMI (sMI (sMI y 11 i 1) 14 i (nI j)) 21 j 1) 22 j (nI i)) 24 j + 1)) 10 i = MI y 10 i from by simp [MI_sMI, ML_sML, MI_sML, ML_sMI]).trans q1, by rw [hz3]; simp [MI_sMI], (show MI (sMI (sMI (sMI (sMI (sMI y 11 i 1) 14 i (nI j)) 21 j 1) 22 j (nI i)) 24 j (MI (sMI (sMI (sMI (sMI y 11 i 1) 14 i (nI j)) 21 j 1) 22 j (nI i)) 24 j + 1)) 12 i = MI y 12 i from by simp [MI_sMI, ML_sML, MI_sML, ML_sMI]).trans q3, (show MI (sMI (sMI (sMI (sMI (sMI y 11 i 1) 14 i (nI j)) 21 j 1) 22 j (nI i)) 24 j (MI (sMI (sMI (sMI (sMI y 11 i 1) 14 i (nI j)) 21 j 1) 22 j (nI i)) 24 j + 1)) 13 i = MI y 13 i from by simp [MI_sMI, ML_sML, MI_sML, ML_sMI]).trans q4, fun a ha => (by cases ha; simp [MI_sMI]), (show MI (sMI (sMI (sMI (sMI (sMI y 11 i 1) 14 i (nI j)) 21 j 1) 22 j (nI i)) 24 j (MI (sMI (sMI (sMI (sMI y 11 i 1) 14 i (nI j)) 21 j 1) 22 j (nI i)) 24 j + 1)) 15 i = MI y 15 i from by simp [MI_sMI, ML_sML, MI_sML, ML_sMI]).trans q6, (show MI (sMI (sMI (sMI (sMI (sMI y 11 i 1) 14 i (nI j)) 21 j 1) 22 j (nI i)) 24 j (MI (sMI (sMI (sMI (sMI y 11 i 1) 14 i (nI j)) 21 j 1) 22 j (nI i)) 24 j + 1)) 16 i = MI y 16 i from by simp [MI_sMI, ML_sML, MI_sML, ML_sMI]).trans q7, fun q => absurd (hz3.symm.trans q) (by decide), (show ML (sMI (sMI (sMI (sMI (sMI y 11 i 1) 14 i (nI j)) 21 j 1) 22 j (nI i)) 24 j (MI (sMI (sMI (sMI (sMI y 11 i 1) 14 i (nI j)) 21 j 1) 22 j (nI i)) 24 j + 1)) 18 i = ML y 18 i from by simp [MI_sMI, ML_sML, MI_sML, ML_sMI]).trans q9, fun q => absurd hz2.1 q⟩
  · obtain ⟨q1, q2, q3, q4, q5, q6, q7, q8, q9, q10, q11⟩ := h.2.2.2.2.2.1 j hj
    exact ⟨(show MI (sMI (sMI (sMI (sMI (sMI y 11 i 1) 14 i (nI j)) 21 j 1) 22 j (nI i)) 24 j (MI (sMI (sMI (sMI (sMI y 11 i 1) 14 i (nI j)) 21 j 1) 22 j (nI i)) 24 j + 1)) 19 j = MI y 19 j from by simp [MI_sMI, ML_sML, MI_sML, ML_sMI]).trans q1, (show MI (sMI (sMI (sMI (sMI (sMI y 11 i 1) 14 i (nI j)) 21 j 1) 22 j (nI i)) 24 j (MI (sMI (sMI (sMI (sMI y 11 i 1) 14 i (nI j)) 21 j 1) 22 j (nI i)) 24 j + 1)) 20 j = MI y 20 j from by simp [MI_sMI, ML_sML, MI_sML, ML_sMI]).trans q2, by simp [MI_sMI], by simp [MI_sMI, oI], fun q => absurd (show (1 : Int32) = 2 from q) (by decide), (show MI (sMI (sMI (sMI (sMI (sMI y 11 i 1) 14 i (nI j)) 21 j 1) 22 j (nI i)) 24 j (MI (sMI (sMI (sMI (sMI y 11 i 1) 14 i (nI j)) 21 j 1) 22 j (nI i)) 24 j + 1)) 24 j = MI y 24 j + 1 from by simp [MI_sMI]).trans (congrArg (fun z => z + 1) q6), (show MI (sMI (sMI (sMI (sMI (sMI y 11 i 1) 14 i (nI j)) 21 j 1) 22 j (nI i)) 24 j (MI (sMI (sMI (sMI (sMI y 11 i 1) 14 i (nI j)) 21 j 1) 22 j (nI i)) 24 j + 1)) 25 j = MI y 25 j from by simp [MI_sMI, ML_sML, MI_sML, ML_sMI]).trans q7, (show MI (sMI (sMI (sMI (sMI (sMI y 11 i 1) 14 i (nI j)) 21 j 1) 22 j (nI i)) 24 j (MI (sMI (sMI (sMI (sMI y 11 i 1) 14 i (nI j)) 21 j 1) 22 j (nI i)) 24 j + 1)) 26 j = MI y 26 j from by simp [MI_sMI, ML_sML, MI_sML, ML_sMI]).trans q8, (show ML (sMI (sMI (sMI (sMI (sMI y 11 i 1) 14 i (nI j)) 21 j 1) 22 j (nI i)) 24 j (MI (sMI (sMI (sMI (sMI y 11 i 1) 14 i (nI j)) 21 j 1) 22 j (nI i)) 24 j + 1)) 27 j = ML y 27 j from by simp [MI_sMI, ML_sML, MI_sML, ML_sMI]).trans q9, (show ML (sMI (sMI (sMI (sMI (sMI y 11 i 1) 14 i (nI j)) 21 j 1) 22 j (nI i)) 24 j (MI (sMI (sMI (sMI (sMI y 11 i 1) 14 i (nI j)) 21 j 1) 22 j (nI i)) 24 j + 1)) 28 j = ML y 28 j from by simp [MI_sMI, ML_sML, MI_sML, ML_sMI]).trans q10, fun q => absurd (show (1 : Int32) = 0 from q) (by decide)⟩
theorem Rel.bar {x : cs_S} {y : ms_S} {j : Nat} (h : Rel x y) (hj : j < nR x) (hs : rSt (gR x j) = 0) (v : Int64) : Rel (sR x j (qDone (gR x j) none v)) (yAns y j v) := by
  obtain ⟨q1, q2, q3, q4, q5, q6, q7, q8, q9, q10, q11⟩ := h.2.2.2.2.2.1 j hj
  have q12 := q11 hs
  have e : qDone (gR x j) none v = rRs_ (rWk_ (rSt_ (gR x j) 2) none) v := if_neg (by rw [q12.2]; decide)
  rw [e]
  exact h.upR hj ((fr.rf.iR 21 2 (by decide)).lR 28 v (by decide)) ⟨(show MI (sML (sMI y 21 j 2) 28 j v) 19 j = MI y 19 j from by simp [MI_sMI, ML_sML, MI_sML, ML_sMI]).trans q1, (show MI (sML (sMI y 21 j 2) 28 j v) 20 j = MI y 20 j from by simp [MI_sMI, ML_sML, MI_sML, ML_sMI]).trans q2, by simp [MI_sMI, MI_sML], (show MI (sML (sMI y 21 j 2) 28 j v) 22 j = MI y 22 j from by simp [MI_sMI, MI_sML]).trans (q4.trans (by rw [q12.1])), fun _ z => absurd rfl z, (show MI (sML (sMI y 21 j 2) 28 j v) 24 j = MI y 24 j from by simp [MI_sMI, ML_sML, MI_sML, ML_sMI]).trans q6, (show MI (sML (sMI y 21 j 2) 28 j v) 25 j = MI y 25 j from by simp [MI_sMI, ML_sML, MI_sML, ML_sMI]).trans q7, (show MI (sML (sMI y 21 j 2) 28 j v) 26 j = MI y 26 j from by simp [MI_sMI, ML_sML, MI_sML, ML_sMI]).trans q8, (show ML (sML (sMI y 21 j 2) 28 j v) 27 j = ML y 27 j from by simp [MI_sMI, ML_sML, MI_sML, ML_sMI]).trans q9, by simp [ML_sML], fun z => absurd (show (2 : Int32) = 0 from z) (by decide)⟩ ⟨(h.2.1.2.2 j hj).1, fun a z => by cases z⟩ (Or.inr (h.noW (by rw [hs]; decide)))
variable {l : Launch} {D : va_G} {k : mk_F} {x : cs_S} {LL : List Nat} {f : Nat → va_E} {sz : Nat}
set_option maxHeartbeats 600000 in
set_option maxRecDepth 100000 in
theorem m_tool (hI : mR k x LL f) (ed : Int64) (qu : Int32) : Met l yM_tool (wz yM_tool bM_tool 4 (some .int)) (rmL 0 0 0) (gP D (mk_tys k) LL f sz [.ref (mO k), .long ed, .int qu]) (va_Qi (fun (r : Int32) (u : cs_S) => (u, r) = zTool x ed qu) (gB D (mk_tys k) (mR k) (va_A (va_pl LL f) sz)) (va_A (va_pl LL f) sz)) 0 0 (va_A (va_pl LL f) sz) := by
  refine gMet (own := RX4) (u := x) (Qc := fun A => va_Qi (fun (r : Int32) (u : cs_S) => (u, r) = zTool x ed qu) (gB D (mk_tys k) (mR k) A) A) (by decide) rfl hI (Nat.le_of_ble_eq_true rfl) ?_
  intro p e s m below meth c ls A hC hr hlk hnm hA hH hl
  obtain ⟨y, hR, hH⟩ := mR.out hH
  obtain ⟨hnT, hnW, hnR⟩ := hR.n
  have hok := hR.2.1
  have hb6 := hok.1.1
  have hb60 := hok.1.2.1
  have hb100 := hok.1.2.2
  have hx := hC.1
  have hb := hC.2.1
  have hml := hC.2.2.2.2.2
  have hts := hC.2.2.1
  have hown := hC.2.2.2.1
  have hl : lv_has ls 4 [(0, _), (1, _), (3, _)] := hl
  first | refine lv_aload_n hx hb dM_tool_0 rfl (lv_at hl 0 rfl) ?_ | refine lv_aload_nN hx hb dM_tool_0 rfl (lv_at hl 0 rfl) ?_
  refine gM_tools hC hH dM_tool_1 ?_
  refine lv_bipush (v := 6) hx hb dM_tool_4 (by decide) ?_
  refine lv_icmp_ne  (tgt := 11) hx hb dM_tool_6 (by decide) (fun h => ?_) (fun h => ?_)
  · have hn : nT x < 6 := by
      have : nT x ≠ 6 := fun q => h (by rw [hnT, q]; rfl)
      omega
    have hn2 : yT y < 6 := by omega
    first | refine lv_aload_n hx hb dM_tool_11 rfl (lv_at hl 0 rfl) ?_ | refine lv_aload_nN hx hb dM_tool_11 rfl (lv_at hl 0 rfl) ?_
    refine gM_editionOf hC hH dM_tool_12 ?_
    first | refine lv_aload_n hx hb dM_tool_15 rfl (lv_at hl 0 rfl) ?_ | refine lv_aload_nN hx hb dM_tool_15 rfl (lv_at hl 0 rfl) ?_
    refine gM_tools hC hH dM_tool_16 ?_
    refine lv_lload_n hx hb dM_tool_19 rfl (lv_at hl 1 rfl) ?_
    refine sM_l hC hH (by decide) (by assumption) dM_tool_20 (fun H locs hH => ?_)
    first | refine lv_aload_n hx hb dM_tool_21 rfl (lv_at hl 0 rfl) ?_ | refine lv_aload_nN hx hb dM_tool_21 rfl (lv_at hl 0 rfl) ?_
    refine gM_quirkOf hC hH dM_tool_22 ?_
    first | refine lv_aload_n hx hb dM_tool_25 rfl (lv_at hl 0 rfl) ?_ | refine lv_aload_nN hx hb dM_tool_25 rfl (lv_at hl 0 rfl) ?_
    refine gM_tools hC hH dM_tool_26 ?_
    refine lv_iload_n hx hb dM_tool_29 rfl (lv_at hl 2 rfl) ?_
    refine sM_i hC hH (by decide) (by assumption) dM_tool_30 (fun H locs hH => ?_)
    first | refine lv_aload_n hx hb dM_tool_31 rfl (lv_at hl 0 rfl) ?_ | refine lv_aload_nN hx hb dM_tool_31 rfl (lv_at hl 0 rfl) ?_
    refine gM_barsOf hC hH dM_tool_32 ?_
    first | refine lv_aload_n hx hb dM_tool_35 rfl (lv_at hl 0 rfl) ?_ | refine lv_aload_nN hx hb dM_tool_35 rfl (lv_at hl 0 rfl) ?_
    refine gM_tools hC hH dM_tool_36 ?_
    refine lv_iconst (v := 0) hx hb dM_tool_39 (by decide) ?_
    refine sM_i hC hH (by decide) (by assumption) dM_tool_40 (fun H locs hH => ?_)
    first | refine lv_aload_n hx hb dM_tool_41 rfl (lv_at hl 0 rfl) ?_ | refine lv_aload_nN hx hb dM_tool_41 rfl (lv_at hl 0 rfl) ?_
    refine lv_dup hx hb dM_tool_42 rfl ?_
    refine gM_tools hC hH dM_tool_43 ?_
    refine lv_iconst (v := 1) hx hb dM_tool_46 (by decide) ?_
    refine lv_iadd hx hb dM_tool_47 ?_
    rw [nI_1]
    refine pM_tools hC hH dM_tool_48 (fun H locs hH => ?_)
    first | refine lv_aload_n hx hb dM_tool_51 rfl (lv_at hl 0 rfl) ?_ | refine lv_aload_nN hx hb dM_tool_51 rfl (lv_at hl 0 rfl) ?_
    refine gM_tools hC hH dM_tool_52 ?_
    refine lv_iconst (v := 1) hx hb dM_tool_55 (by decide) ?_
    refine lv_isub hx hb dM_tool_56 ?_
    refine lv_topi (fun r hr2 => ?_)
    have hR2 := hR.pushT hn ed qu
    exact grWi hC hr hlk rfl (mR.in hR2 hH) (by rw [zTool, if_pos hn, hr2, ← hnT]; exact congrArg (fun q => (_, q)) (nI_pred (yT y))) dM_tool_57
  · have hn : ¬ nT x < 6 := fun q => by
      rw [hnT] at h
      have := (nI_eq (a := nT x) (b := 6) (by omega) (by omega)).mp h
      omega
    refine lv_iconst (v := -1) hx hb dM_tool_9 (by decide) ?_
    exact grWi hC hr hlk rfl (mR.in hR hH) (by rw [zTool, if_neg hn]) dM_tool_10
set_option maxHeartbeats 600000 in
set_option maxRecDepth 100000 in
theorem m_request (hI : mR k x LL f) (v : Int32) (inp : Int64) (z : Int32) : Met l yM_request (wz yM_request bM_request 6 (some .int)) (rmL 1 0 0) (gP D (mk_tys k) LL f sz [.ref (mO k), .int v, .long inp, .int z]) (va_Qi (fun (r : Int32) (u : cs_S) => (u, r) = zReq x v inp z) (gB D (mk_tys k) (mR k) (va_A (va_pl LL f) sz)) (va_A (va_pl LL f) sz)) 0 0 (va_A (va_pl LL f) sz) := by
  refine gMet (own := RX4) (u := x) (Qc := fun A => va_Qi (fun (r : Int32) (u : cs_S) => (u, r) = zReq x v inp z) (gB D (mk_tys k) (mR k) A) A) (by decide) rfl hI (Nat.le_of_ble_eq_true rfl) ?_
  intro p e s m below meth c ls A hC hr hlk hnm hA hH hl
  obtain ⟨y, hR, hH⟩ := mR.out hH
  obtain ⟨hnT, hnW, hnR⟩ := hR.n
  have hok := hR.2.1
  have hb6 := hok.1.1
  have hb60 := hok.1.2.1
  have hb100 := hok.1.2.2
  have hx := hC.1
  have hb := hC.2.1
  have hml := hC.2.2.2.2.2
  have hts := hC.2.2.1
  have hown := hC.2.2.2.1
  have hl : lv_has ls 6 [(0, _), (1, _), (2, _), (4, _)] := hl
  first | refine lv_aload_n hx hb dM_request_0 rfl (lv_at hl 0 rfl) ?_ | refine lv_aload_nN hx hb dM_request_0 rfl (lv_at hl 0 rfl) ?_
  refine gM_requests hC hH dM_request_1 ?_
  refine lv_bipush (v := 100) hx hb dM_request_4 (by decide) ?_
  refine lv_icmp_eq  (tgt := 33) hx hb dM_request_6 (by decide) (fun h => ?_) (fun h => ?_)
  · have hn : ¬ nR x < 100 := fun q => by
      rw [hnR] at h
      have := (nI_eq (a := nR x) (b := 100) (by omega) (by omega)).mp h
      omega
    refine lv_iconst (v := -1) hx hb dM_request_33 (by decide) ?_
    exact grWi hC hr hlk rfl (mR.in hR hH) (by unfold zReq; rcases lk (nT x) v with _ | t; rfl; exact (if_neg (fun q => hn q.1)).symm) dM_request_34
  · have hn : nR x < 100 := by
      have : nR x ≠ 100 := fun q => h (by rw [hnR, q]; rfl)
      omega
    have hn2 : yR y < 100 := by omega
    refine lv_iload_n hx hb dM_request_9 rfl (lv_at hl 1 rfl) ?_
    first | refine lv_aload_n hx hb dM_request_10 rfl (lv_at hl 0 rfl) ?_ | refine lv_aload_nN hx hb dM_request_10 rfl (lv_at hl 0 rfl) ?_
    refine gM_tools hC hH dM_request_11 ?_
    refine gcTi hC.fix hl.1 (m_in v (yT y) (by omega)) kM_96 ⟨Nat.le_of_ble_eq_true rfl, Nat.le_of_ble_eq_true rfl⟩ dM_request_14 ⟨Nat.le_of_ble_eq_true rfl, Nat.le_of_ble_eq_true rfl⟩ rfl (Nat.le_of_ble_eq_true rfl) (fun r hr1 => ?_)
    rcases hr1 with ⟨t, ht, hv, rfl⟩ | ⟨hv, rfl⟩
    · have ht2 : t < nT x := by rw [← hnT]; exact ht
      have hkk : lk (nT x) v = some t := by rw [hv]; exact lk_in ht2 (by omega)
      subst hv
      refine lv_if_eq  (tgt := 33) hx hb dM_request_17 (by decide) (fun h1 => ?_) (fun h1 => ?_)
      · exact absurd h1 (by decide)
      · refine lv_iload hx hb dM_request_20 (lv_at hl 3 rfl) ?_
        refine lv_if_lt  (tgt := 33) hx hb dM_request_22 (by decide) (fun h2 => ?_) (fun h2 => ?_)
        · refine lv_iconst (v := -1) hx hb dM_request_33 (by decide) ?_
          exact grWi hC hr hlk rfl (mR.in hR hH) (by simp only [zReq, hkk]; rw [if_neg (fun q => q.2.1 h2)]) dM_request_34
        · refine lv_iload hx hb dM_request_25 (lv_at hl 3 rfl) ?_
          refine lv_sipush (v := 1000) hx hb dM_request_27 (by decide) ?_
          refine lv_icmp_le  (tgt := 35) hx hb dM_request_30 (by decide) (fun h3 => ?_) (fun h3 => ?_)
          · first | refine lv_aload_n hx hb dM_request_35 rfl (lv_at hl 0 rfl) ?_ | refine lv_aload_nN hx hb dM_request_35 rfl (lv_at hl 0 rfl) ?_
            refine gM_requests hC hH dM_request_36 ?_
            refine lv_istore hx hb dM_request_39 hl (by decide) rfl (fun ls hl => ?_)
            have hl : lv_has ls 6 [(5, _), (0, _), (1, _), (2, _), (4, _)] := hl
            first | refine lv_aload_n hx hb dM_request_41 rfl (lv_at hl 1 rfl) ?_ | refine lv_aload_nN hx hb dM_request_41 rfl (lv_at hl 1 rfl) ?_
            refine gM_wants hC hH dM_request_42 ?_
            refine lv_iload hx hb dM_request_45 (lv_at hl 0 rfl) ?_
            refine lv_iload_n hx hb dM_request_47 rfl (lv_at hl 2 rfl) ?_
            refine sM_i hC hH (by decide) (by assumption) dM_request_48 (fun H locs hH => ?_)
            first | refine lv_aload_n hx hb dM_request_49 rfl (lv_at hl 1 rfl) ?_ | refine lv_aload_nN hx hb dM_request_49 rfl (lv_at hl 1 rfl) ?_
            refine gM_input hC hH dM_request_50 ?_
            refine lv_iload hx hb dM_request_53 (lv_at hl 0 rfl) ?_
            refine lv_lload_n hx hb dM_request_55 rfl (lv_at hl 3 rfl) ?_
            refine sM_l hC hH (by decide) (by assumption) dM_request_56 (fun H locs hH => ?_)
            first | refine lv_aload_n hx hb dM_request_57 rfl (lv_at hl 1 rfl) ?_ | refine lv_aload_nN hx hb dM_request_57 rfl (lv_at hl 1 rfl) ?_
            refine gM_size hC hH dM_request_58 ?_
            refine lv_iload hx hb dM_request_61 (lv_at hl 0 rfl) ?_
            refine lv_iload hx hb dM_request_63 (lv_at hl 4 rfl) ?_
            refine sM_i hC hH (by decide) (by assumption) dM_request_65 (fun H locs hH => ?_)
            first | refine lv_aload_n hx hb dM_request_66 rfl (lv_at hl 1 rfl) ?_ | refine lv_aload_nN hx hb dM_request_66 rfl (lv_at hl 1 rfl) ?_
            refine gM_kind hC hH dM_request_67 ?_
            refine lv_iload hx hb dM_request_70 (lv_at hl 0 rfl) ?_
            refine lv_iconst (v := 0) hx hb dM_request_72 (by decide) ?_
            refine sM_i hC hH (by decide) (by assumption) dM_request_73 (fun H locs hH => ?_)
            first | refine lv_aload_n hx hb dM_request_74 rfl (lv_at hl 1 rfl) ?_ | refine lv_aload_nN hx hb dM_request_74 rfl (lv_at hl 1 rfl) ?_
            refine gM_by hC hH dM_request_75 ?_
            refine lv_iload hx hb dM_request_78 (lv_at hl 0 rfl) ?_
            refine lv_iconst (v := -1) hx hb dM_request_80 (by decide) ?_
            refine sM_i hC hH (by decide) (by assumption) dM_request_81 (fun H locs hH => ?_)
            first | refine lv_aload_n hx hb dM_request_82 rfl (lv_at hl 1 rfl) ?_ | refine lv_aload_nN hx hb dM_request_82 rfl (lv_at hl 1 rfl) ?_
            refine lv_dup hx hb dM_request_83 rfl ?_
            refine gM_requests hC hH dM_request_84 ?_
            refine lv_iconst (v := 1) hx hb dM_request_87 (by decide) ?_
            refine lv_iadd hx hb dM_request_88 ?_
            rw [nI_1]
            refine pM_requests hC hH dM_request_89 (fun H locs hH => ?_)
            refine lv_iload hx hb dM_request_92 (lv_at hl 0 rfl) ?_
            have hR2 := hR.pushR hn ht2 inp z
            exact grWi hC hr hlk rfl (mR.in hR2 hH) (by simp only [zReq, hkk]; rw [if_pos ⟨hn, h2, h3⟩, ← hnR]) dM_request_94
          · refine lv_iconst (v := -1) hx hb dM_request_33 (by decide) ?_
            exact grWi hC hr hlk rfl (mR.in hR hH) (by simp only [zReq, hkk]; rw [if_neg (fun q => h3 q.2.2)]) dM_request_34
    · have hkk : lk (nT x) v = none := lk_out (fun i hi => hv i (by rw [hnT]; exact hi))
      refine lv_if_eq  (tgt := 33) hx hb dM_request_17 (by decide) (fun h1 => ?_) (fun h1 => ?_)
      · refine lv_iconst (v := -1) hx hb dM_request_33 (by decide) ?_
        exact grWi hC hr hlk rfl (mR.in hR hH) (by simp only [zReq, hkk]) dM_request_34
      · exact absurd rfl h1
set_option maxHeartbeats 600000 in
set_option maxRecDepth 100000 in
theorem goes_tail {p : Program} {e : Env} {R : Room} {s : State} {m : MethodId} {args : Array Value} {below : List Frame} {meth : Method} {c : Code} {H : Heap} {locs : List Loc} {cells slots : Nat} {Q : State → Prop} {ls : Array Slot} {A : Nat → Prop} {y : ms_S} {i j : Nat} (hC : mX D k p s m args c bM_goes 4) (hR : Rel x y) (hi : i < nW x) (hj : j < nR x) (hz : zSt (gW x i) = 0) (hs : rSt (gR x j) = 0) (hH : mG D k y A s.heap H locs) (hl : lv_has ls 4 [(0, .ref (mO k)), (1, .int (nI j)), (3, .int (nI i))]) (kk : ∀ (H1 : Heap) (locs1 : List Loc), gH D (mR k) (zBegin x j i) A s.heap H1 locs1 → W p l e R s m args below meth c H1 locs1 cells slots Q (F0 m 121 ls [])) : W p l e R s m args below meth c H locs cells slots Q (F0 m 83 ls []) := by
  have hok := hR.2.1
  have hi60 : i < 60 := Nat.lt_of_lt_of_le hi hok.1.2.1
  have hj3 : j < 100 := Nat.lt_of_lt_of_le hj hok.1.2.2
  have hR2 := hR.begin hi hj hz hs
  have hx := hC.1
  have hb := hC.2.1
  have hml := hC.2.2.2.2.2
  have hts := hC.2.2.1
  have hown := hC.2.2.2.1
  have hl : lv_has ls 4 [(0, _), (1, _), (3, _)] := hl
  first | refine lv_aload_n hx hb dM_goes_83 rfl (lv_at hl 0 rfl) ?_ | refine lv_aload_nN hx hb dM_goes_83 rfl (lv_at hl 0 rfl) ?_
  refine gM_state hC hH dM_goes_84 ?_
  refine lv_iload_n hx hb dM_goes_87 rfl (lv_at hl 2 rfl) ?_
  refine lv_iconst (v := 1) hx hb dM_goes_88 (by decide) ?_
  refine sM_i hC hH (by decide) (by assumption) dM_goes_89 (fun H locs hH => ?_)
  first | refine lv_aload_n hx hb dM_goes_90 rfl (lv_at hl 0 rfl) ?_ | refine lv_aload_nN hx hb dM_goes_90 rfl (lv_at hl 0 rfl) ?_
  refine gM_busyWith hC hH dM_goes_91 ?_
  refine lv_iload_n hx hb dM_goes_94 rfl (lv_at hl 2 rfl) ?_
  refine lv_iload_n hx hb dM_goes_95 rfl (lv_at hl 1 rfl) ?_
  refine sM_i hC hH (by decide) (by assumption) dM_goes_96 (fun H locs hH => ?_)
  first | refine lv_aload_n hx hb dM_goes_97 rfl (lv_at hl 0 rfl) ?_ | refine lv_aload_nN hx hb dM_goes_97 rfl (lv_at hl 0 rfl) ?_
  refine gM_kind hC hH dM_goes_98 ?_
  refine lv_iload_n hx hb dM_goes_101 rfl (lv_at hl 1 rfl) ?_
  refine lv_iconst (v := 1) hx hb dM_goes_102 (by decide) ?_
  refine sM_i hC hH (by decide) (by assumption) dM_goes_103 (fun H locs hH => ?_)
  first | refine lv_aload_n hx hb dM_goes_104 rfl (lv_at hl 0 rfl) ?_ | refine lv_aload_nN hx hb dM_goes_104 rfl (lv_at hl 0 rfl) ?_
  refine gM_by hC hH dM_goes_105 ?_
  refine lv_iload_n hx hb dM_goes_108 rfl (lv_at hl 1 rfl) ?_
  refine lv_iload_n hx hb dM_goes_109 rfl (lv_at hl 2 rfl) ?_
  refine sM_i hC hH (by decide) (by assumption) dM_goes_110 (fun H locs hH => ?_)
  first | refine lv_aload_n hx hb dM_goes_111 rfl (lv_at hl 0 rfl) ?_ | refine lv_aload_nN hx hb dM_goes_111 rfl (lv_at hl 0 rfl) ?_
  refine gM_begun hC hH dM_goes_112 ?_
  refine lv_iload_n hx hb dM_goes_115 rfl (lv_at hl 1 rfl) ?_
  refine lv_dup2_11 hx hb dM_goes_116 rfl rfl ?_
  refine aM_i hC hH (by decide) (by assumption) dM_goes_117 ?_
  refine lv_iconst (v := 1) hx hb dM_goes_118 (by decide) ?_
  refine lv_iadd hx hb dM_goes_119 ?_
  refine sM_i hC hH (by decide) (by assumption) dM_goes_120 (fun H locs hH => ?_)
  exact kk _ _ (mR.in hR2 hH)
set_option maxHeartbeats 600000 in
set_option maxRecDepth 100000 in
theorem m_goes (hI : mR k x LL f) {j : Nat} (hj : j < nR x) (hs : rSt (gR x j) = 0) : Met l yM_goes (wz yM_goes bM_goes 4 (some .boolean)) (rmL 1 0 0) (gP D (mk_tys k) LL f sz [.ref (mO k), .int (nI j)]) (va_Qi (fun (r : Int32) (u : cs_S) => (u, r) = zMove x j) (gB D (mk_tys k) (mR k) (va_A (va_pl LL f) sz)) (va_A (va_pl LL f) sz)) 0 0 (va_A (va_pl LL f) sz) := by
  refine gMet (own := RX4) (u := x) (Qc := fun A => va_Qi (fun (r : Int32) (u : cs_S) => (u, r) = zMove x j) (gB D (mk_tys k) (mR k) A) A) (by decide) rfl hI (Nat.le_of_ble_eq_true rfl) ?_
  intro p e s m below meth c ls A hC hr hlk hnm hA hH hl
  obtain ⟨y, hR, hH⟩ := mR.out hH
  obtain ⟨hnT, hnW, hnR⟩ := hR.n
  have hok := hR.2.1
  have hb6 := hok.1.1
  have hb60 := hok.1.2.1
  have hb100 := hok.1.2.2
  have hx := hC.1
  have hb := hC.2.1
  have hml := hC.2.2.2.2.2
  have hts := hC.2.2.1
  have hown := hC.2.2.2.1
  have hl : lv_has ls 4 [(0, _), (1, _)] := hl
  have q0 := hR.2.2.2.2.2.1 j hj
  have hj3 : j < 100 := by omega
  have ht : (rTo (gR x j)) < nT x := (hok.2.2 j hj).1
  have ht6 : (rTo (gR x j)) < 6 := by omega
  have qt := hR.2.2.2.1 (rTo (gR x j)) ht
  first | refine lv_aload_n hx hb dM_goes_0 rfl (lv_at hl 0 rfl) ?_ | refine lv_aload_nN hx hb dM_goes_0 rfl (lv_at hl 0 rfl) ?_
  refine gM_wants hC hH dM_goes_1 ?_
  refine lv_iload_n hx hb dM_goes_4 rfl (lv_at hl 1 rfl) ?_
  refine aM_i hC hH (by decide) (by assumption) dM_goes_5 ?_
  rw [q0.1]
  refine lv_istore_n hx hb dM_goes_6 rfl hl (by decide) rfl (fun ls hl => ?_)
  have hl : lv_has ls 4 [(2, _), (0, _), (1, _)] := hl
  first | refine lv_aload_n hx hb dM_goes_7 rfl (lv_at hl 1 rfl) ?_ | refine lv_aload_nN hx hb dM_goes_7 rfl (lv_at hl 1 rfl) ?_
  refine gM_barsOf hC hH dM_goes_8 ?_
  refine lv_iload_n hx hb dM_goes_11 rfl (lv_at hl 0 rfl) ?_
  refine aM_i hC hH (by decide) (by assumption) dM_goes_12 ?_
  refine lv_iconst (v := 3) hx hb dM_goes_13 (by decide) ?_
  rw [qt.2.2]
  refine lv_icmp_lt  (tgt := 40) hx hb dM_goes_14 (by decide) (fun h => ?_) (fun h => ?_)
  · first | refine lv_aload_n hx hb dM_goes_40 rfl (lv_at hl 1 rfl) ?_ | refine lv_aload_nN hx hb dM_goes_40 rfl (lv_at hl 1 rfl) ?_
    refine lv_iload_n hx hb dM_goes_41 rfl (lv_at hl 0 rfl) ?_
    refine gcVi hC hl.1 hH (fun LL f sz hI => m_freeOne hI (nI (rTo (gR x j))) (by omega)) mJ.o rfl rfl kM_118 ⟨Nat.le_of_ble_eq_true rfl, Nat.le_of_ble_eq_true rfl⟩ dM_goes_42 ⟨Nat.le_of_ble_eq_true rfl, Nat.le_of_ble_eq_true rfl⟩ rfl (Nat.le_of_ble_eq_true rfl) (fun r hr1 => ?_)
    rw [hR.freeOne ht] at hr1
    rcases hff : ffr x (rTo (gR x j)) 60 0 with _ | i
    · obtain rfl : r = -1 := by rw [hr1, hff]; rfl
      refine lv_istore_n hx hb dM_goes_45 rfl hl (by decide) rfl (fun ls hl => ?_)
      have hl : lv_has ls 4 [(3, _), (2, _), (0, _), (1, _)] := hl
      refine lv_iload_n hx hb dM_goes_46 rfl (lv_at hl 0 rfl) ?_
      refine lv_if_ge  (tgt := 77) hx hb dM_goes_47 (by decide) (fun h1 => ?_) (fun h1 => ?_)
      · exact absurd h1 (by decide)
      · first | refine lv_aload_n hx hb dM_goes_50 rfl (lv_at hl 2 rfl) ?_ | refine lv_aload_nN hx hb dM_goes_50 rfl (lv_at hl 2 rfl) ?_
        refine lv_iload_n hx hb dM_goes_51 rfl (lv_at hl 1 rfl) ?_
        refine gcVi hC hl.1 hH (fun LL f sz hI => m_alive hI (nI (rTo (gR x j))) (by omega)) mJ.o rfl rfl kM_122 ⟨Nat.le_of_ble_eq_true rfl, Nat.le_of_ble_eq_true rfl⟩ dM_goes_52 ⟨Nat.le_of_ble_eq_true rfl, Nat.le_of_ble_eq_true rfl⟩ rfl (Nat.le_of_ble_eq_true rfl) (fun r2 hr2 => ?_)
        rw [hR.alive ht] at hr2
        subst hr2
        have hmo : yMo y = cMo x := congrArg (fun q => q.1) hR.1.1
        first | refine lv_aload_n hx hb dM_goes_55 rfl (lv_at hl 2 rfl) ?_ | refine lv_aload_nN hx hb dM_goes_55 rfl (lv_at hl 2 rfl) ?_
        refine gM_most hC hH dM_goes_56 ?_
        rw [hmo]
        refine lv_icmp_ge  (tgt := 77) hx hb dM_goes_59 (by decide) (fun h2 => ?_) (fun h2 => ?_)
        · refine lv_iload_n hx hb dM_goes_77 rfl (lv_at hl 0 rfl) ?_
          refine lv_if_ge  (tgt := 83) hx hb dM_goes_78 (by decide) (fun h3 => ?_) (fun h3 => ?_)
          · exact absurd h3 (by decide)
          · refine lv_iconst (v := 0) hx hb dM_goes_81 (by decide) ?_
            exact grWi hC hr hlk rfl (mR.in hR hH) (by simp only [zMove, hff]; rw [if_neg (fun q => q h), if_neg (fun q => absurd q.2 (Int32.not_lt.mpr h2))]) dM_goes_82
        · first | refine lv_aload_n hx hb dM_goes_62 rfl (lv_at hl 2 rfl) ?_ | refine lv_aload_nN hx hb dM_goes_62 rfl (lv_at hl 2 rfl) ?_
          refine gM_workers hC hH dM_goes_63 ?_
          refine lv_bipush (v := 60) hx hb dM_goes_66 (by decide) ?_
          refine lv_icmp_ge  (tgt := 77) hx hb dM_goes_68 (by decide) (fun h4 => ?_) (fun h4 => ?_)
          · have hn : ¬ nW x < 60 := fun q => nI_ge (b := 60) (by omega) (by decide) h4
            refine lv_iload_n hx hb dM_goes_77 rfl (lv_at hl 0 rfl) ?_
            refine lv_if_ge  (tgt := 83) hx hb dM_goes_78 (by decide) (fun h3 => ?_) (fun h3 => ?_)
            · exact absurd h3 (by decide)
            · refine lv_iconst (v := 0) hx hb dM_goes_81 (by decide) ?_
              exact grWi hC hr hlk rfl (mR.in hR hH) (by simp only [zMove, hff]; rw [if_neg (fun q => q h), if_neg (fun q => hn q.1)]) dM_goes_82
          · have hn : nW x < 60 := Nat.lt_of_not_le (fun q => h4 (nI_le (a := 60) (by omega) (by omega)))
            have hnc : nW x < 60 ∧ cst x (rTo (gR x j)) 60 < cMo x := ⟨hn, Int32.not_le.mp h2⟩
            first | refine lv_aload_n hx hb dM_goes_71 rfl (lv_at hl 2 rfl) ?_ | refine lv_aload_nN hx hb dM_goes_71 rfl (lv_at hl 2 rfl) ?_
            refine lv_iload_n hx hb dM_goes_72 rfl (lv_at hl 1 rfl) ?_
            refine gcWVi hC hl.1 hA hH (fun LL f sz hI => m_newOne hI ht6 (by omega)) mJ.o rfl rfl kM_125 ⟨Nat.le_of_ble_eq_true rfl, Nat.le_of_ble_eq_true rfl⟩ dM_goes_73 ⟨Nat.le_of_ble_eq_true rfl, Nat.le_of_ble_eq_true rfl⟩ rfl (Nat.le_of_ble_eq_true rfl) (fun r3 u H locs hp hH => ?_)
            obtain ⟨rfl, rfl⟩ := hp
            have hR1 := hR.pushW hn ht
            rw [hnW]
            have hw3 : nW x < 60 := hn
            have hi1 : nW x < nW (aW x ((rTo (gR x j)), tEd (gT x (rTo (gR x j))), 0, 0, 0, 0, 0, none)) := Nat.lt_succ_self _
            refine lv_istore_n hx hb dM_goes_76 rfl hl (by decide) rfl (fun ls hl => ?_)
            have hl : lv_has ls 4 [(3, _), (2, _), (0, _), (1, _)] := hl
            refine lv_iload_n hx hb dM_goes_77 rfl (lv_at hl 0 rfl) ?_
            refine lv_if_ge  (tgt := 83) hx hb dM_goes_78 (by decide) (fun h3 => ?_) (fun h3 => ?_)
            · generalize yNew y (rTo (gR x j)) = y1 at hR1 hH
              refine goes_tail hC hR1 hi1 hj (by rw [gW_new]; rfl) hs hH (lv_sub hl [2, 3, 0] rfl) (fun H locs hH => ?_)
              refine lv_iconst (v := 1) hx hb dM_goes_121 (by decide) ?_
              exact grWi hC hr hlk rfl hH (by simp only [zMove, hff]; rw [if_neg (fun q => q h), if_pos hnc]) dM_goes_122
            · exact absurd (nI_pos' (by omega)) h3
    · obtain ⟨hi, hz⟩ := ffr_ok _ _ _ hff
      have hi60 : i < 60 := by omega
      obtain rfl : r = nI i := by rw [hr1, hff]; rfl
      refine lv_istore_n hx hb dM_goes_45 rfl hl (by decide) rfl (fun ls hl => ?_)
      have hl : lv_has ls 4 [(3, _), (2, _), (0, _), (1, _)] := hl
      refine lv_iload_n hx hb dM_goes_46 rfl (lv_at hl 0 rfl) ?_
      refine lv_if_ge  (tgt := 77) hx hb dM_goes_47 (by decide) (fun h1 => ?_) (fun h1 => ?_)
      · refine lv_iload_n hx hb dM_goes_77 rfl (lv_at hl 0 rfl) ?_
        refine lv_if_ge  (tgt := 83) hx hb dM_goes_78 (by decide) (fun h3 => ?_) (fun h3 => ?_)
        · refine goes_tail hC hR hi hj hz hs hH (lv_sub hl [2, 3, 0] rfl) (fun H locs hH => ?_)
          refine lv_iconst (v := 1) hx hb dM_goes_121 (by decide) ?_
          exact grWi hC hr hlk rfl hH (by simp only [zMove, hff]; rw [if_neg (fun q => q h)]) dM_goes_122
        · exact absurd (nI_pos' (by omega)) h3
      · exact absurd (nI_pos' (by omega)) h1
  · first | refine lv_aload_n hx hb dM_goes_17 rfl (lv_at hl 1 rfl) ?_ | refine lv_aload_nN hx hb dM_goes_17 rfl (lv_at hl 1 rfl) ?_
    refine lv_iload_n hx hb dM_goes_18 rfl (lv_at hl 2 rfl) ?_
    first | refine lv_aload_n hx hb dM_goes_19 rfl (lv_at hl 1 rfl) ?_ | refine lv_aload_nN hx hb dM_goes_19 rfl (lv_at hl 1 rfl) ?_
    first | refine lv_aload_n hx hb dM_goes_20 rfl (lv_at hl 1 rfl) ?_ | refine lv_aload_nN hx hb dM_goes_20 rfl (lv_at hl 1 rfl) ?_
    refine gM_editionOf hC hH dM_goes_21 ?_
    refine lv_iload_n hx hb dM_goes_24 rfl (lv_at hl 0 rfl) ?_
    refine aM_l hC hH (by decide) (by assumption) dM_goes_25 ?_
    first | refine lv_aload_n hx hb dM_goes_26 rfl (lv_at hl 1 rfl) ?_ | refine lv_aload_nN hx hb dM_goes_26 rfl (lv_at hl 1 rfl) ?_
    refine gM_input hC hH dM_goes_27 ?_
    refine lv_iload_n hx hb dM_goes_30 rfl (lv_at hl 2 rfl) ?_
    refine aM_l hC hH (by decide) (by assumption) dM_goes_31 ?_
    refine gcVl hC hl.1 hH (fun LL f sz hI => m_oneShot hI _ _) mJ.o rfl rfl kM_110 ⟨Nat.le_of_ble_eq_true rfl, Nat.le_of_ble_eq_true rfl⟩ dM_goes_32 ⟨Nat.le_of_ble_eq_true rfl, Nat.le_of_ble_eq_true rfl⟩ rfl (Nat.le_of_ble_eq_true rfl) (fun v hv => ?_)
    have hv2 : v = os (tEd (gT x (rTo (gR x j)))) (rIn (gR x j)) := by rw [hv, qt.1, q0.2.2.2.2.2.2.2.2.1]
    clear hv
    refine gcWVv hC hl.1 hA hH (fun LL f sz hI => m_answers hI hj3 v) mJ.o rfl rfl kM_114 ⟨Nat.le_of_ble_eq_true rfl, Nat.le_of_ble_eq_true rfl⟩ dM_goes_35 ⟨Nat.le_of_ble_eq_true rfl, Nat.le_of_ble_eq_true rfl⟩ rfl (Nat.le_of_ble_eq_true rfl) (fun u H locs hp hH => ?_)
    subst hp
    refine lv_iconst (v := 1) hx hb dM_goes_38 (by decide) ?_
    have hR2 := hR.bar hj hs v
    exact grWi hC hr hlk rfl (mR.in hR2 hH) (by simp only [zMove]; rw [if_pos h, hv2]) dM_goes_39
end M3
end
section
section RL3
variable {x : cs_S} {y y0 : ms_S} {i j : Nat}
theorem fr.let (h : fr y0 y i j) : fr y0 (yLet y j) i j := by
  unfold yLet
  split
  · exact h.iR 22 (-1) (by decide)
  · exact ((h.iR 22 (-1) (by decide)).iR 25 0 (by decide)).iR 21 3 (by decide)
theorem fr.wai (h : fr y0 y i j) : fr y0 (yWai y j) i j := by
  unfold yWai
  split
  · exact (h.iR 22 (-1) (by decide)).iR 21 0 (by decide)
  · exact h.let
theorem ML_let (y : ms_S) (j : Nat) : ML (yLet y j) = ML y := by
  unfold yLet
  split <;> rfl
theorem fr.ans (h : fr y0 y i j) (v : Int64) : fr y0 (yAns y j v) i j := (h.iR 21 2 (by decide)).lR 28 v (by decide)
theorem bI_f {b : Bool} (h : ¬ bI b = 0) : b = true := by
  cases b
  · exact absurd rfl h
  · rfl
theorem RR.let {r : cs_R} (h : RR r y j) (hu : ¬ MI y 25 j = 0) : RR (qCan r) (yLet y j) j := by
  obtain ⟨q1, q2, q3, q4, q5, q6, q7, q8, q9, q10, q11⟩ := h
  have e : yLet y j = sMI (sMI (sMI y 22 j (-1)) 25 j 0) 21 j 3 := if_neg hu
  rw [e]
  exact ⟨(show MI (sMI (sMI (sMI y 22 j (-1)) 25 j 0) 21 j 3) 19 j = MI y 19 j from by simp [MI_sMI, ML_sML, MI_sML, ML_sMI]).trans q1, (show MI (sMI (sMI (sMI y 22 j (-1)) 25 j 0) 21 j 3) 20 j = MI y 20 j from by simp [MI_sMI, ML_sML, MI_sML, ML_sMI]).trans q2, by simp [MI_sMI]; rfl, by simp [MI_sMI]; rfl, fun z => absurd (show (3 : Int32) = 2 from z) (by decide), (show MI (sMI (sMI (sMI y 22 j (-1)) 25 j 0) 21 j 3) 24 j = MI y 24 j from by simp [MI_sMI, ML_sML, MI_sML, ML_sMI]).trans q6, by simp [MI_sMI]; rfl, (show MI (sMI (sMI (sMI y 22 j (-1)) 25 j 0) 21 j 3) 26 j = MI y 26 j from by simp [MI_sMI, ML_sML, MI_sML, ML_sMI]).trans q8, (show ML (sMI (sMI (sMI y 22 j (-1)) 25 j 0) 21 j 3) 27 j = ML y 27 j from by simp [MI_sMI, ML_sML, MI_sML, ML_sMI]).trans q9, (show ML (sMI (sMI (sMI y 22 j (-1)) 25 j 0) 21 j 3) 28 j = ML y 28 j from by simp [MI_sMI, ML_sML, MI_sML, ML_sMI]).trans q10, fun z => absurd (show (3 : Int32) = 0 from z) (by decide)⟩
theorem RR.wait {r : cs_R} (h : RR r y j) : RR (qWait r) (yWai y j) j := by
  by_cases hu : MI y 25 j = 0
  · have hb : rUn r = false := bI_0.mp (by rw [← h.2.2.2.2.2.2.1]; exact hu)
    have e : yWai y j = sMI (sMI y 22 j (-1)) 21 j 0 := if_pos hu
    have e2 : qWait r = rWk_ (rSt_ r 0) none := if_neg (by rw [hb]; decide)
    obtain ⟨q1, q2, q3, q4, q5, q6, q7, q8, q9, q10, q11⟩ := h
    rw [e, e2]
    exact ⟨(show MI (sMI (sMI y 22 j (-1)) 21 j 0) 19 j = MI y 19 j from by simp [MI_sMI, ML_sML, MI_sML, ML_sMI]).trans q1, (show MI (sMI (sMI y 22 j (-1)) 21 j 0) 20 j = MI y 20 j from by simp [MI_sMI, ML_sML, MI_sML, ML_sMI]).trans q2, by simp [MI_sMI], by simp [MI_sMI]; rfl, fun z => absurd (show (0 : Int32) = 2 from z) (by decide), (show MI (sMI (sMI y 22 j (-1)) 21 j 0) 24 j = MI y 24 j from by simp [MI_sMI, ML_sML, MI_sML, ML_sMI]).trans q6, (show MI (sMI (sMI y 22 j (-1)) 21 j 0) 25 j = MI y 25 j from by simp [MI_sMI, ML_sML, MI_sML, ML_sMI]).trans q7, (show MI (sMI (sMI y 22 j (-1)) 21 j 0) 26 j = MI y 26 j from by simp [MI_sMI, ML_sML, MI_sML, ML_sMI]).trans q8, (show ML (sMI (sMI y 22 j (-1)) 21 j 0) 27 j = ML y 27 j from by simp [MI_sMI, ML_sML, MI_sML, ML_sMI]).trans q9, (show ML (sMI (sMI y 22 j (-1)) 21 j 0) 28 j = ML y 28 j from by simp [MI_sMI, ML_sML, MI_sML, ML_sMI]).trans q10, fun _ => ⟨rfl, hb⟩⟩
  · have hb : rUn r = true := bI_f (by rw [← h.2.2.2.2.2.2.1]; exact hu)
    have e : yWai y j = yLet y j := if_neg hu
    have e2 : qWait r = qCan r := if_pos hb
    rw [e, e2]
    exact h.let hu
theorem RR.ans {r : cs_R} (h : RR r y j) (v : Int64) : RR (qDone r none v) (if MI y 25 j = 0 then yAns (yLet y j) j v else yLet y j) j := by
  by_cases hu : MI y 25 j = 0
  · have hb : rUn r = false := bI_0.mp (by rw [← h.2.2.2.2.2.2.1]; exact hu)
    have e2 : qDone r none v = rRs_ (rWk_ (rSt_ r 2) none) v := if_neg (by rw [hb]; decide)
    have e : yLet y j = sMI y 22 j (-1) := if_pos hu
    obtain ⟨q1, q2, q3, q4, q5, q6, q7, q8, q9, q10, q11⟩ := h
    rw [if_pos hu, e, e2]
    exact ⟨(show MI (yAns (sMI y 22 j (-1)) j v) 19 j = MI y 19 j from by simp [MI_sMI, ML_sML, MI_sML, ML_sMI, yAns]).trans q1, (show MI (yAns (sMI y 22 j (-1)) j v) 20 j = MI y 20 j from by simp [MI_sMI, ML_sML, MI_sML, ML_sMI, yAns]).trans q2, by simp [yAns, MI_sMI, MI_sML], by simp [yAns, MI_sMI, MI_sML]; rfl, fun _ z => absurd rfl z, (show MI (yAns (sMI y 22 j (-1)) j v) 24 j = MI y 24 j from by simp [MI_sMI, ML_sML, MI_sML, ML_sMI, yAns]).trans q6, (show MI (yAns (sMI y 22 j (-1)) j v) 25 j = MI y 25 j from by simp [MI_sMI, ML_sML, MI_sML, ML_sMI, yAns]).trans q7, (show MI (yAns (sMI y 22 j (-1)) j v) 26 j = MI y 26 j from by simp [MI_sMI, ML_sML, MI_sML, ML_sMI, yAns]).trans q8, (show ML (yAns (sMI y 22 j (-1)) j v) 27 j = ML y 27 j from by simp [MI_sMI, ML_sML, MI_sML, ML_sMI, yAns]).trans q9, by simp [yAns, ML_sML], fun z => absurd (show (2 : Int32) = 0 from z) (by decide)⟩
  · have hb : rUn r = true := bI_f (by rw [← h.2.2.2.2.2.2.1]; exact hu)
    have e2 : qDone r none v = qCan r := if_pos hb
    rw [if_neg hu, e2]
    exact h.let hu
theorem Rel.endBusy (h : Rel x y) (hi : i < nW x) (hj : j < nR x) {r : Int32} (hr0 : ¬ r = 0) (hq : wRq (gW x i) = some j) {y' : ms_S} {r' : cs_R} (hf : fr (yEnd y i r) y' 1000 j) (hf2 : fr y y' i j) (hr : RR r' y' j) (ht : rTo r' = rTo (gR x j)) (hn : rWk r' = none) : Rel (sR (sW x i (wEn_ (wRq_ (gW x i) none) r)) j r') y' := by
  obtain ⟨q1, q2, q3, q4, q5, q6, q7, q8, q9, q10⟩ := h.2.2.2.2.1 i hi
  have hi60 := h.2.1.1.2.1
  have hz : zSt (wEn_ (wRq_ (gW x i) none) r) = 2 := zSt_2.mpr hr0
  have hw : RW (wEn_ (wRq_ (gW x i) none) r) (yEnd y i r) i := ⟨(show MI (yEnd y i r) 10 i = MI y 10 i from by simp [MI_sMI, ML_sML, MI_sML, ML_sMI, yEnd]).trans q1, by rw [hz]; simp [yEnd, MI_sMI], (show MI (yEnd y i r) 12 i = MI y 12 i from by simp [MI_sMI, ML_sML, MI_sML, ML_sMI, yEnd]).trans q3, (show MI (yEnd y i r) 13 i = MI y 13 i from by simp [MI_sMI, ML_sML, MI_sML, ML_sMI, yEnd]).trans q4, fun a z => (by cases z), by simp [yEnd, MI_sMI], (show MI (yEnd y i r) 16 i = MI y 16 i from by simp [MI_sMI, ML_sML, MI_sML, ML_sMI, yEnd]).trans q7, fun z => absurd (hz.symm.trans z) (by decide), (show ML (yEnd y i r) 18 i = ML y 18 i from by simp [MI_sMI, ML_sML, MI_sML, ML_sMI, yEnd]).trans q9, fun _ => rfl⟩
  refine h.upWR hi hj hf2 (hw.mv hf (by omega)) hr ⟨(h.2.1.2.1 i hi).1, fun a z => by cases z⟩ ⟨by rw [ht]; exact (h.2.1.2.2 j hj).1, fun a z => by rw [hn] at z; cases z⟩ (fun a z => by cases z) (h.onlyW hi hq)
theorem Rel.atEnd (h : Rel x y) (hj : j < nR x) (r : Int32) : RR (gR x j) (yEnd y i r) j := (h.2.2.2.2.2.1 j hj).mv (fr.yEnd i r 1000) (by have := h.2.1.1.2.2; omega)
theorem Rel.endRe0 (h : Rel x y) (hi : i < nW x) {r : Int32} (hr : ¬ r = 0) (hq : wRq (gW x i) = none) : Rel (sW x i (wEn_ (wRq_ (gW x i) none) r)) (yEnd y i r) ∧ Rel (zEndRe x i r) (yEnd y i r) := by
  have e : wEn_ (wRq_ (gW x i) none) r = wEn_ (gW x i) r := by
    show (_, _, _, _, _, _, r, none) = (_, _, _, _, _, _, r, wRq (gW x i))
    rw [hq]
  have e2 : zEndRe x i r = sW x i (wEn_ (wRq_ (gW x i) none) r) := by unfold zEndRe; rw [hq]
  rw [e2, e]
  exact ⟨h.ends0 hi hr hq, h.ends0 hi hr hq⟩
theorem Rel.endRe1 (h : Rel x y) (hi : i < nW x) {r : Int32} (hr : ¬ r = 0) (hq : wRq (gW x i) = some j) : Rel (zEndRe x i r) (yWai (yEnd y i r) j) := by
  have hj := (h.2.1.2.1 i hi).2 j hq
  have e2 : zEndRe x i r = sR (sW x i (wEn_ (wRq_ (gW x i) none) r)) j (qWait (gR x j)) := by unfold zEndRe; rw [hq]
  rw [e2]
  have hu : ∀ q : cs_R, rTo (qWait q) = rTo q ∧ rWk (qWait q) = none := fun q => by
    unfold qWait
    split <;> exact ⟨rfl, rfl⟩
  exact h.endBusy hi hj hr hq fr.rf.wai (fr.yEnd i r j).wai (h.atEnd hj r).wait (hu _).1 (hu _).2
theorem nR_zMove (x : cs_S) (j : Nat) : nR (zMove x j).1 = nR x := by
  unfold zMove
  split
  · rfl
  · split
    · rfl
    · split <;> rfl
theorem zStepF_n (x : cs_S) : ∀ i, nR (zStepF x i).1 = nR x
  | 0 => rfl
  | i + 1 => by
    unfold zStepF
    split
    · rw [nR_zMove]
      exact zStepF_n x i
    · exact zStepF_n x i
theorem zStepF_100 (x : cs_S) : ∀ m, zStepF x (nR x + m) = zStepF x (nR x)
  | 0 => rfl
  | m + 1 => by
    rw [← zStepF_100 x m]
    exact if_neg (fun q => absurd q.1 (by rw [zStepF_n]; exact Nat.not_lt.mpr (Nat.le_add_right _ _)))
theorem zEdF_60 (x : cs_S) (t : Nat) : (∀ i, nW (zEdF x t i).1 = nW x) ∧ ∀ m, zEdF x t (nW x + m) = zEdF x t (nW x) := by
  have h1 : ∀ i, nW (zEdF x t i).1 = nW x := by
    intro i
    induction i with
    | zero => rfl
    | succ i ih =>
      unfold zEdF
      split
      · rw [(nW_zEndRe _ _ _).1]
        exact ih
      · exact ih
  refine ⟨h1, fun m => ?_⟩
  induction m with
  | zero => rfl
  | succ m ih =>
    rw [← ih]
    exact if_neg (fun q => absurd q.1 (by rw [h1]; exact Nat.not_lt.mpr (Nat.le_add_right _ _)))
theorem zTkF_60 (x : cs_S) : (∀ i, nW (zTkF x i).1 = nW x ∧ cCl (zTkF x i).1 = cCl x ∧ cId (zTkF x i).1 = cId x) ∧ ∀ m, zTkF x (nW x + m) = zTkF x (nW x) := by
  have h1 : ∀ i, nW (zTkF x i).1 = nW x ∧ cCl (zTkF x i).1 = cCl x ∧ cId (zTkF x i).1 = cId x := by
    intro i
    induction i with
    | zero => exact ⟨rfl, rfl, rfl⟩
    | succ i ih =>
      unfold zTkF
      split
      · exact ih
      · exact ih
  refine ⟨h1, fun m => ?_⟩
  induction m with
  | zero => rfl
  | succ m ih =>
    rw [← ih]
    exact if_neg (fun q => absurd q.1 (by rw [(h1 _).1]; exact Nat.not_lt.mpr (Nat.le_add_right _ _)))
end RL3
end
section
section M4
variable {l : Launch} {D : va_G} {k : mk_F} {x : cs_S} {LL : List Nat} {f : Nat → va_E} {sz : Nat}
set_option maxHeartbeats 600000 in
set_option maxRecDepth 100000 in
theorem m_step (hI : mR k x LL f) : Met l yM_step (wz yM_step bM_step 3 (some .int)) (rmL 2 0 0) (gP D (mk_tys k) LL f sz [.ref (mO k)]) (va_Qi (fun (r : Int32) (u : cs_S) => (u, r) = zStepF x 100) (gB D (mk_tys k) (mR k) (va_A (va_pl LL f) sz)) (va_A (va_pl LL f) sz)) 0 0 (va_A (va_pl LL f) sz) := by
  refine gMet (own := RX4) (u := x) (Qc := fun A => va_Qi (fun (r : Int32) (u : cs_S) => (u, r) = zStepF x 100) (gB D (mk_tys k) (mR k) A) A) (by decide) rfl hI (Nat.le_of_ble_eq_true rfl) ?_
  intro p e s m below meth c ls A hC hr hlk hnm hA hH hl
  have hx := hC.1
  have hb := hC.2.1
  have hml := hC.2.2.2.2.2
  have hts := hC.2.2.1
  have hown := hC.2.2.2.1
  have hl : lv_has ls 3 [(0, _)] := hl
  refine lv_iconst (v := 0) hx hb dM_step_0 (by decide) ?_
  refine lv_istore_n hx hb dM_step_1 rfl hl (by decide) rfl (fun ls hl => ?_)
  have hl : lv_has ls 3 [(1, _), (0, _)] := hl
  refine lv_iconst (v := 0) hx hb dM_step_2 (by decide) ?_
  refine lv_istore_n hx hb dM_step_3 rfl hl (by decide) rfl (fun ls hl => ?_)
  have hl : lv_has ls 3 [(2, _), (1, _), (0, _)] := hl
  refine (?_ : ∀ (n i : Nat) (w : Int32) (ls : Array Slot) (H : Heap) (locs : List Loc), i + n = nR x → w = (zStepF x i).2 → gH D (mR k) (zStepF x i).1 A s.heap H locs → lv_has ls 3 [(0, .ref (mO k)), (1, .int w), (2, .int (nI i))] → W p l e _ s m _ below meth c H locs 0 0 _ (F0 m 4 ls [])) (nR x) 0 0 ls _ _ (Nat.zero_add _) rfl hH (lv_sub hl [2, 1, 0] rfl)
  intro n
  induction n with
  | zero =>
    intro i w ls H locs hin hw hH hl
    obtain ⟨y, hR, hM⟩ := mR.out hH
    have hG := hH
    have hH := hM
    have hnR := hR.n.2.2
    have hb100 := hR.2.1.1.2.2
    rw [zStepF_n] at hnR hb100
    refine lv_iload_n hx hb dM_step_4 rfl (lv_at hl 2 rfl) ?_
    first | refine lv_aload_n hx hb dM_step_5 rfl (lv_at hl 0 rfl) ?_ | refine lv_aload_nN hx hb dM_step_5 rfl (lv_at hl 0 rfl) ?_
    refine gM_requests hC hH dM_step_6 ?_
    refine lv_icmp_ge  (tgt := 38) hx hb dM_step_9 (by decide) (fun h => ?_) (fun h => ?_)
    · refine lv_iload_n hx hb dM_step_38 rfl (lv_at hl 1 rfl) ?_
      obtain rfl : i = nR x := by omega
      have e := zStepF_100 x (100 - nR x)
      rw [show nR x + (100 - nR x) = 100 by omega] at e
      exact grWi hC hr hlk rfl hG (by rw [hw, e]) dM_step_39
    · exact absurd (by rw [hnR]; exact nI_le (by omega) (by omega)) h
  | succ n ih =>
    intro i w ls H locs hin hw hH hl
    obtain ⟨y, hR, hM⟩ := mR.out hH
    have hG := hH
    have hH := hM
    have hnR := hR.n.2.2
    have hb100 := hR.2.1.1.2.2
    rw [zStepF_n] at hnR hb100
    have hi2 : i < nR (zStepF x i).1 := by rw [zStepF_n]; omega
    have hi3 : i < 100 := by omega
    have q := hR.2.2.2.2.2.1 i hi2
    refine lv_iload_n hx hb dM_step_4 rfl (lv_at hl 2 rfl) ?_
    first | refine lv_aload_n hx hb dM_step_5 rfl (lv_at hl 0 rfl) ?_ | refine lv_aload_nN hx hb dM_step_5 rfl (lv_at hl 0 rfl) ?_
    refine gM_requests hC hH dM_step_6 ?_
    refine lv_icmp_ge  (tgt := 38) hx hb dM_step_9 (by decide) (fun h => ?_) (fun h => ?_)
    · exact absurd h (by rw [hnR]; exact nI_ge (by omega) (by omega))
    · first | refine lv_aload_n hx hb dM_step_12 rfl (lv_at hl 0 rfl) ?_ | refine lv_aload_nN hx hb dM_step_12 rfl (lv_at hl 0 rfl) ?_
      refine gM_kind hC hH dM_step_13 ?_
      refine lv_iload_n hx hb dM_step_16 rfl (lv_at hl 2 rfl) ?_
      refine aM_i hC hH (by decide) (by assumption) dM_step_17 ?_
      rw [q.2.2.1]
      refine lv_if_ne  (tgt := 32) hx hb dM_step_18 (by decide) (fun h1 => ?_) (fun h1 => ?_)
      · refine lv_iinc hx hb dM_step_32 hl (k := 2) rfl rfl (by decide) rfl (fun ls hl => ?_)
        have hl : lv_has ls 3 [(2, _), (0, _), (1, _)] := hl
        refine lv_goto (tgt := 4) hx hb dM_step_35 (by decide) ?_
        have hs : zStepF x (i + 1) = zStepF x i := if_neg (fun q => h1 q.2)
        exact ih (i + 1) w ls H locs (by omega) (by rw [hs]; exact hw) (by rw [hs]; exact hG) (by rw [← nI_1 i]; exact lv_sub hl [1, 2, 0] rfl)
      · first | refine lv_aload_n hx hb dM_step_21 rfl (lv_at hl 0 rfl) ?_ | refine lv_aload_nN hx hb dM_step_21 rfl (lv_at hl 0 rfl) ?_
        refine lv_iload_n hx hb dM_step_22 rfl (lv_at hl 2 rfl) ?_
        refine gcWViE hC hl.1 hA hG (fun LL f sz hI => m_goes hI hi2 h1) mR.o rfl rfl kM_128 ⟨Nat.le_of_ble_eq_true rfl, Nat.le_of_ble_eq_true rfl⟩ dM_step_23 ⟨Nat.le_of_ble_eq_true rfl, Nat.le_of_ble_eq_true rfl⟩ rfl (Nat.le_of_ble_eq_true rfl) (fun r u H locs hp hH => ?_)
        have hs : zStepF x (i + 1) = (u, if r = 0 then (zStepF x i).2 else (zStepF x i).2 + 1) := by
          rw [show zStepF x (i + 1) = _ from if_pos ⟨hi2, h1⟩, ← hp]
        refine lv_if_eq  (tgt := 32) hx hb dM_step_26 (by decide) (fun h2 => ?_) (fun h2 => ?_)
        · refine lv_iinc hx hb dM_step_32 hl (k := 2) rfl rfl (by decide) rfl (fun ls hl => ?_)
          have hl : lv_has ls 3 [(2, _), (0, _), (1, _)] := hl
          refine lv_goto (tgt := 4) hx hb dM_step_35 (by decide) ?_
          exact ih (i + 1) w ls H locs (by omega) (by rw [hs, hw]; exact (if_pos h2).symm) (by rw [hs]; exact hH) (by rw [← nI_1 i]; exact lv_sub hl [1, 2, 0] rfl)
        · refine lv_iinc hx hb dM_step_29 hl (k := 1) rfl rfl (by decide) rfl (fun ls hl => ?_)
          have hl : lv_has ls 3 [(1, _), (0, _), (2, _)] := hl
          refine lv_iinc hx hb dM_step_32 hl (k := 2) rfl rfl (by decide) rfl (fun ls hl => ?_)
          have hl : lv_has ls 3 [(2, _), (1, _), (0, _)] := hl
          refine lv_goto (tgt := 4) hx hb dM_step_35 (by decide) ?_
          exact ih (i + 1) (w + Int32.ofInt 1) ls H locs (by omega) (by rw [hs, hw]; exact (if_neg h2).symm) (by rw [hs]; exact hH) (by rw [← nI_1 i]; exact lv_sub hl [2, 1, 0] rfl)
set_option maxHeartbeats 600000 in
set_option maxRecDepth 100000 in
theorem m_crash (hI : mR k x LL f) (v : Int32) : Met l yM_crash (wz yM_crash bM_crash 4 (some .int)) (rmL 1 0 0) (gP D (mk_tys k) LL f sz [.ref (mO k), .int v]) (va_Qi (fun (r : Int32) (u : cs_S) => (u, r) = zCra x v) (gB D (mk_tys k) (mR k) (va_A (va_pl LL f) sz)) (va_A (va_pl LL f) sz)) 0 0 (va_A (va_pl LL f) sz) := by
  refine gMet (own := RX4) (u := x) (Qc := fun A => va_Qi (fun (r : Int32) (u : cs_S) => (u, r) = zCra x v) (gB D (mk_tys k) (mR k) A) A) (by decide) rfl hI (Nat.le_of_ble_eq_true rfl) ?_
  intro p e s m below meth c ls A hC hr hlk hnm hA hH hl
  obtain ⟨y, hR, hH⟩ := mR.out hH
  obtain ⟨hnT, hnW, hnR⟩ := hR.n
  have hok := hR.2.1
  have hb6 := hok.1.1
  have hb60 := hok.1.2.1
  have hb100 := hok.1.2.2
  have hx := hC.1
  have hb := hC.2.1
  have hml := hC.2.2.2.2.2
  have hts := hC.2.2.1
  have hown := hC.2.2.2.1
  have hl : lv_has ls 4 [(0, _), (1, _)] := hl
  refine lv_iload_n hx hb dM_crash_0 rfl (lv_at hl 1 rfl) ?_
  first | refine lv_aload_n hx hb dM_crash_1 rfl (lv_at hl 0 rfl) ?_ | refine lv_aload_nN hx hb dM_crash_1 rfl (lv_at hl 0 rfl) ?_
  refine gM_workers hC hH dM_crash_2 ?_
  refine gcTi hC.fix hl.1 (m_in v (yW y) (by omega)) kM_96 ⟨Nat.le_of_ble_eq_true rfl, Nat.le_of_ble_eq_true rfl⟩ dM_crash_5 ⟨Nat.le_of_ble_eq_true rfl, Nat.le_of_ble_eq_true rfl⟩ rfl (Nat.le_of_ble_eq_true rfl) (fun r hr1 => ?_)
  rcases hr1 with ⟨i, hi, hv, rfl⟩ | ⟨hv, rfl⟩
  · have hi2 : i < nW x := by rw [← hnW]; exact hi
    have hi3 : i < 60 := by omega
    have hkk : lk (nW x) v = some i := by rw [hv]; exact lk_in hi2 (by omega)
    subst hv
    have q0 := hR.2.2.2.2.1 i hi2
    refine lv_if_eq  (tgt := 21) hx hb dM_crash_8 (by decide) (fun h => ?_) (fun h => ?_)
    · exact absurd h (by decide)
    · first | refine lv_aload_n hx hb dM_crash_11 rfl (lv_at hl 0 rfl) ?_ | refine lv_aload_nN hx hb dM_crash_11 rfl (lv_at hl 0 rfl) ?_
      refine gM_state hC hH dM_crash_12 ?_
      refine lv_iload_n hx hb dM_crash_15 rfl (lv_at hl 1 rfl) ?_
      refine aM_i hC hH (by decide) (by assumption) dM_crash_16 ?_
      refine lv_iconst (v := 2) hx hb dM_crash_17 (by decide) ?_
      rw [q0.2.1]
      refine lv_icmp_ne  (tgt := 23) hx hb dM_crash_18 (by decide) (fun h2 => ?_) (fun h2 => ?_)
      · have h0 : wEn (gW x i) = 0 := Classical.byContradiction (fun z => h2 (zSt_2.mpr z))
        first | refine lv_aload_n hx hb dM_crash_23 rfl (lv_at hl 0 rfl) ?_ | refine lv_aload_nN hx hb dM_crash_23 rfl (lv_at hl 0 rfl) ?_
        refine gM_state hC hH dM_crash_24 ?_
        refine lv_iload_n hx hb dM_crash_27 rfl (lv_at hl 1 rfl) ?_
        refine aM_i hC hH (by decide) (by assumption) dM_crash_28 ?_
        refine lv_iconst (v := 1) hx hb dM_crash_29 (by decide) ?_
        rw [q0.2.1]
        refine lv_icmp_ne  (tgt := 37) hx hb dM_crash_30 (by decide) (fun h3 => ?_) (fun h3 => ?_)
        · have hq : wRq (gW x i) = none := Classical.byContradiction (fun z => h3 (zSt_1.mpr ⟨h0, z⟩))
          refine lv_iconst (v := 0) hx hb dM_crash_37 (by decide) ?_
          refine lv_istore_n hx hb dM_crash_38 rfl hl (by decide) rfl (fun ls hl => ?_)
          have hl : lv_has ls 4 [(2, _), (0, _), (1, _)] := hl
          first | refine lv_aload_n hx hb dM_crash_39 rfl (lv_at hl 1 rfl) ?_ | refine lv_aload_nN hx hb dM_crash_39 rfl (lv_at hl 1 rfl) ?_
          refine lv_iload_n hx hb dM_crash_40 rfl (lv_at hl 2 rfl) ?_
          refine lv_iconst (v := 3) hx hb dM_crash_41 (by decide) ?_
          refine gcWVi hC hl.1 hA hH (fun LL f sz hI => m_ends hI hi3 3) mJ.o rfl rfl kM_137 ⟨Nat.le_of_ble_eq_true rfl, Nat.le_of_ble_eq_true rfl⟩ dM_crash_42 ⟨Nat.le_of_ble_eq_true rfl, Nat.le_of_ble_eq_true rfl⟩ rfl (Nat.le_of_ble_eq_true rfl) (fun r u H locs hp hH => ?_)
          obtain ⟨hp1, hp2⟩ := hp
          subst hp1
          refine lv_istore_n hx hb dM_crash_45 rfl hl (by decide) rfl (fun ls hl => ?_)
          have hl : lv_has ls 4 [(3, _), (2, _), (0, _), (1, _)] := hl
          refine lv_iload_n hx hb dM_crash_46 rfl (lv_at hl 1 rfl) ?_
          refine lv_if_eq  (tgt := 79) hx hb dM_crash_47 (by decide) (fun h4 => ?_) (fun h4 => ?_)
          · refine lv_iconst (v := 1) hx hb dM_crash_79 (by decide) ?_
            have hR2 := (hR.endRe0 hi2 (r := 3) (by decide) hq).1
            exact grWi hC hr hlk rfl (mR.in hR2 hH) (by simp only [zCra, hkk, hq]; rw [if_pos h0]) dM_crash_80
          · exact absurd rfl h4
        · rcases hq : wRq (gW x i) with _ | j
          · exact absurd hq (zSt_1.mp h3).2
          · have hj := (hok.2.1 i hi2).2 j hq
            have hj3 : j < 100 := by omega
            refine lv_iconst (v := 1) hx hb dM_crash_33 (by decide) ?_
            refine lv_goto (tgt := 38) hx hb dM_crash_34 (by decide) ?_
            refine lv_istore_n hx hb dM_crash_38 rfl hl (by decide) rfl (fun ls hl => ?_)
            have hl : lv_has ls 4 [(2, _), (0, _), (1, _)] := hl
            first | refine lv_aload_n hx hb dM_crash_39 rfl (lv_at hl 1 rfl) ?_ | refine lv_aload_nN hx hb dM_crash_39 rfl (lv_at hl 1 rfl) ?_
            refine lv_iload_n hx hb dM_crash_40 rfl (lv_at hl 2 rfl) ?_
            refine lv_iconst (v := 3) hx hb dM_crash_41 (by decide) ?_
            refine gcWVi hC hl.1 hA hH (fun LL f sz hI => m_ends hI hi3 3) mJ.o rfl rfl kM_137 ⟨Nat.le_of_ble_eq_true rfl, Nat.le_of_ble_eq_true rfl⟩ dM_crash_42 ⟨Nat.le_of_ble_eq_true rfl, Nat.le_of_ble_eq_true rfl⟩ rfl (Nat.le_of_ble_eq_true rfl) (fun r u H locs hp hH => ?_)
            obtain ⟨hp1, hp2⟩ := hp
            subst hp1
            obtain rfl : r = nI j := by rw [hp2]; exact q0.2.2.2.2.1 j hq
            have hat := hR.atEnd (i := i) hj 3
            have hu : ∀ (c : cs_R) (v : Int64), rTo (qDone c none v) = rTo c ∧ rWk (qDone c none v) = none := fun c v => by
              unfold qDone
              split <;> exact ⟨rfl, rfl⟩
            obtain ⟨ov, hov⟩ : ∃ ov, ov = os (wEd (gW x i)) (rIn (gR x j)) := ⟨_, rfl⟩
            refine lv_istore_n hx hb dM_crash_45 rfl hl (by decide) rfl (fun ls hl => ?_)
            have hl : lv_has ls 4 [(3, _), (2, _), (0, _), (1, _)] := hl
            refine lv_iload_n hx hb dM_crash_46 rfl (lv_at hl 1 rfl) ?_
            refine lv_if_eq  (tgt := 79) hx hb dM_crash_47 (by decide) (fun h4 => ?_) (fun h4 => ?_)
            · exact absurd h4 (by decide)
            · first | refine lv_aload_n hx hb dM_crash_50 rfl (lv_at hl 2 rfl) ?_ | refine lv_aload_nN hx hb dM_crash_50 rfl (lv_at hl 2 rfl) ?_
              refine lv_iload_n hx hb dM_crash_51 rfl (lv_at hl 0 rfl) ?_
              refine gcWVi hC hl.1 hA hH (fun LL f sz hI => m_lets hI hj3) mJ.o rfl rfl kM_103 ⟨Nat.le_of_ble_eq_true rfl, Nat.le_of_ble_eq_true rfl⟩ dM_crash_52 ⟨Nat.le_of_ble_eq_true rfl, Nat.le_of_ble_eq_true rfl⟩ rfl (Nat.le_of_ble_eq_true rfl) (fun r2 u H locs hp hH => ?_)
              obtain ⟨hp1, hp2⟩ := hp
              subst hp1
              refine lv_if_ne  (tgt := 79) hx hb dM_crash_55 (by decide) (fun h5 => ?_) (fun h5 => ?_)
              · have h6 : ¬ MI (yEnd y i 3) 25 j = 0 := fun z => h5 (by rw [hp2, if_pos z])
                refine lv_iconst (v := 1) hx hb dM_crash_79 (by decide) ?_
                have hx2 := hat.ans ov
                rw [if_neg h6] at hx2
                have hR2 := hR.endBusy hi2 hj (r := 3) (by decide) hq (y' := yLet (yEnd y i 3) j) (r' := qDone (gR x j) none ov) fr.rf.let (fr.yEnd i 3 j).let hx2 (hu _ _).1 (hu _ _).2
                exact grWi hC hr hlk rfl (mR.in hR2 hH) (by simp only [zCra, hkk, hq]; rw [if_pos h0, ← hov]) dM_crash_80
              · have h6 : MI (yEnd y i 3) 25 j = 0 := Classical.byContradiction (fun z => by rw [hp2, if_neg z] at h5; exact absurd h5 (by decide))
                first | refine lv_aload_n hx hb dM_crash_58 rfl (lv_at hl 2 rfl) ?_ | refine lv_aload_nN hx hb dM_crash_58 rfl (lv_at hl 2 rfl) ?_
                refine lv_iload_n hx hb dM_crash_59 rfl (lv_at hl 0 rfl) ?_
                first | refine lv_aload_n hx hb dM_crash_60 rfl (lv_at hl 2 rfl) ?_ | refine lv_aload_nN hx hb dM_crash_60 rfl (lv_at hl 2 rfl) ?_
                first | refine lv_aload_n hx hb dM_crash_61 rfl (lv_at hl 2 rfl) ?_ | refine lv_aload_nN hx hb dM_crash_61 rfl (lv_at hl 2 rfl) ?_
                refine gM_startedWith hC hH dM_crash_62 ?_
                refine lv_iload_n hx hb dM_crash_65 rfl (lv_at hl 3 rfl) ?_
                refine aM_l hC hH (by decide) (by assumption) dM_crash_66 ?_
                first | refine lv_aload_n hx hb dM_crash_67 rfl (lv_at hl 2 rfl) ?_ | refine lv_aload_nN hx hb dM_crash_67 rfl (lv_at hl 2 rfl) ?_
                refine gM_input hC hH dM_crash_68 ?_
                refine lv_iload_n hx hb dM_crash_71 rfl (lv_at hl 0 rfl) ?_
                refine aM_l hC hH (by decide) (by assumption) dM_crash_72 ?_
                refine gcVl hC hl.1 hH (fun LL f sz hI => m_oneShot hI _ _) mJ.o rfl rfl kM_110 ⟨Nat.le_of_ble_eq_true rfl, Nat.le_of_ble_eq_true rfl⟩ dM_crash_73 ⟨Nat.le_of_ble_eq_true rfl, Nat.le_of_ble_eq_true rfl⟩ rfl (Nat.le_of_ble_eq_true rfl) (fun v hv => ?_)
                have hv2 : v = ov := by rw [hv, hov, ML_let]; show os (ML y 18 i) (ML y 27 j) = _; rw [q0.2.2.2.2.2.2.2.2.1, (hR.2.2.2.2.2.1 j hj).2.2.2.2.2.2.2.2.1]
                clear hv
                subst hv2
                refine gcWVv hC hl.1 hA hH (fun LL f sz hI => m_answers hI hj3 v) mJ.o rfl rfl kM_114 ⟨Nat.le_of_ble_eq_true rfl, Nat.le_of_ble_eq_true rfl⟩ dM_crash_76 ⟨Nat.le_of_ble_eq_true rfl, Nat.le_of_ble_eq_true rfl⟩ rfl (Nat.le_of_ble_eq_true rfl) (fun u H locs hp hH => ?_)
                subst hp
                refine lv_iconst (v := 1) hx hb dM_crash_79 (by decide) ?_
                have hx2 := hat.ans v
                rw [if_pos h6] at hx2
                have hR2 := hR.endBusy hi2 hj (r := 3) (by decide) hq (y' := yAns (yLet (yEnd y i 3) j) j v) (r' := qDone (gR x j) none v) (fr.rf.let.ans v) ((fr.yEnd i 3 j).let.ans v) hx2 (hu _ _).1 (hu _ _).2
                exact grWi hC hr hlk rfl (mR.in hR2 hH) (by simp only [zCra, hkk, hq]; rw [if_pos h0, ← hov]) dM_crash_80
      · have h0 : ¬ wEn (gW x i) = 0 := zSt_2.mp h2
        refine lv_iconst (v := -1) hx hb dM_crash_21 (by decide) ?_
        exact grWi hC hr hlk rfl (mR.in hR hH) (by simp only [zCra, hkk]; rw [if_neg h0]) dM_crash_22
  · have hkk : lk (nW x) v = none := lk_out (fun i hi => hv i (by rw [hnW]; exact hi))
    refine lv_if_eq  (tgt := 21) hx hb dM_crash_8 (by decide) (fun h => ?_) (fun h => ?_)
    · refine lv_iconst (v := -1) hx hb dM_crash_21 (by decide) ?_
      exact grWi hC hr hlk rfl (mR.in hR hH) (by simp only [zCra, hkk]) dM_crash_22
    · exact absurd rfl h
end M4
end
section
section M5
theorem tick_le {c v : Int32} (h0 : 0 ≤ c.toInt) (h1 : c.toInt ≤ 1000000000) (h2 : ¬ v < 0) (h3 : ¬ 10000 < v) : (c + v ≤ 1000000000 ↔ c ≤ 1000000000 - v) ∧ (c + v ≤ 1000000000 → 0 ≤ (c + v).toInt ∧ (c + v).toInt ≤ 1000000000) := by
  obtain ⟨m, hm, rfl⟩ := nI_of2 (M := 10000) (n := 10000) (by decide) h2 (Int32.not_lt.mp h3)
  have e0 : (0 : Int32).toInt = 0 := by decide
  have e9 : (1000000000 : Int32).toInt = 1000000000 := by decide
  have hc0 : ¬ c < 0 := fun q => by
    have := Int32.lt_iff_toInt_lt.mp q
    omega
  have hc9 : c ≤ 1000000000 := Int32.le_iff_toInt_le.mpr (by omega)
  obtain ⟨b, hb, rfl⟩ := nI_of2 (x := c) (M := 1000000000) (n := 1000000000) e9 hc0 hc9
  rw [nI_add, show (1000000000 : Int32) = nI 1000000000 from rfl, pk_sub (by omega), nI_leI (by omega) (by omega), nI_leI (by omega) (by omega), nI_toInt (by omega)]
  exact ⟨by omega, fun q => by omega⟩
variable {l : Launch} {D : va_G} {k : mk_F} {x : cs_S} {LL : List Nat} {f : Nat → va_E} {sz : Nat}
set_option maxHeartbeats 600000 in
set_option maxRecDepth 100000 in
theorem m_edition (hI : mR k x LL f) (v : Int32) (ed : Int64) : Met l yM_edition (wz yM_edition bM_edition 8 (some .int)) (rmL 2 0 0) (gP D (mk_tys k) LL f sz [.ref (mO k), .int v, .long ed]) (va_Qi (fun (r : Int32) (u : cs_S) => (u, r) = zEdi x v ed) (gB D (mk_tys k) (mR k) (va_A (va_pl LL f) sz)) (va_A (va_pl LL f) sz)) 0 0 (va_A (va_pl LL f) sz) := by
  refine gMet (own := RX4) (u := x) (Qc := fun A => va_Qi (fun (r : Int32) (u : cs_S) => (u, r) = zEdi x v ed) (gB D (mk_tys k) (mR k) A) A) (by decide) rfl hI (Nat.le_of_ble_eq_true rfl) ?_
  intro p e s m below meth c ls A hC hr hlk hnm hA hH hl
  obtain ⟨y, hR, hH⟩ := mR.out hH
  obtain ⟨hnT, hnW, hnR⟩ := hR.n
  have hok := hR.2.1
  have hb6 := hok.1.1
  have hb60 := hok.1.2.1
  have hb100 := hok.1.2.2
  have hx := hC.1
  have hb := hC.2.1
  have hml := hC.2.2.2.2.2
  have hts := hC.2.2.1
  have hown := hC.2.2.2.1
  have hl : lv_has ls 8 [(0, _), (1, _), (2, _)] := hl
  refine lv_iload_n hx hb dM_edition_0 rfl (lv_at hl 1 rfl) ?_
  first | refine lv_aload_n hx hb dM_edition_1 rfl (lv_at hl 0 rfl) ?_ | refine lv_aload_nN hx hb dM_edition_1 rfl (lv_at hl 0 rfl) ?_
  refine gM_tools hC hH dM_edition_2 ?_
  refine gcTi hC.fix hl.1 (m_in v (yT y) (by omega)) kM_96 ⟨Nat.le_of_ble_eq_true rfl, Nat.le_of_ble_eq_true rfl⟩ dM_edition_5 ⟨Nat.le_of_ble_eq_true rfl, Nat.le_of_ble_eq_true rfl⟩ rfl (Nat.le_of_ble_eq_true rfl) (fun r hr1 => ?_)
  rcases hr1 with ⟨t, ht, hv, rfl⟩ | ⟨hv, rfl⟩
  · have ht2 : t < nT x := by rw [← hnT]; exact ht
    have ht3 : t < 6 := by omega
    have hkk : lk (nT x) v = some t := by rw [hv]; exact lk_in ht2 (by omega)
    subst hv
    refine lv_if_ne  (tgt := 13) hx hb dM_edition_8 (by decide) (fun h => ?_) (fun h => ?_)
    · first | refine lv_aload_n hx hb dM_edition_13 rfl (lv_at hl 0 rfl) ?_ | refine lv_aload_nN hx hb dM_edition_13 rfl (lv_at hl 0 rfl) ?_
      refine gM_editionOf hC hH dM_edition_14 ?_
      refine lv_iload_n hx hb dM_edition_17 rfl (lv_at hl 1 rfl) ?_
      refine lv_lload_n hx hb dM_edition_18 rfl (lv_at hl 2 rfl) ?_
      refine sM_l hC hH (by decide) (by assumption) dM_edition_19 (fun H locs hH => ?_)
      refine lv_iconst (v := 0) hx hb dM_edition_20 (by decide) ?_
      refine lv_istore hx hb dM_edition_21 hl (by decide) rfl (fun ls hl => ?_)
      have hl : lv_has ls 8 [(4, _), (0, _), (1, _), (2, _)] := hl
      refine lv_iconst (v := 0) hx hb dM_edition_23 (by decide) ?_
      refine lv_istore hx hb dM_edition_24 hl (by decide) rfl (fun ls hl => ?_)
      have hl : lv_has ls 8 [(5, _), (4, _), (0, _), (1, _), (2, _)] := hl
      have qt := hR.2.2.2.1 t ht2
      have hR2 : Rel (sT x t (tEd_ (gT x t) ed)) (sML y 7 t ed) := hR.upT (y' := sML y 7 t ed) (t := tEd_ (gT x t) ed) ht2 ⟨rfl, rfl, rfl⟩ (fun a b hab => ⟨rfl, by rw [ML_sML, if_neg (by omega)]⟩) ⟨by simp [ML_sML], qt.2.1, qt.2.2⟩
      have hG := mR.in hR2 hH
      have hXW : nW (sT x t (tEd_ (gT x t) ed)) = nW x := rfl
      have hXT : nT (sT x t (tEd_ (gT x t) ed)) = nT x := rfl
      generalize hX : sT x t (tEd_ (gT x t) ed) = X at hG hXW hXT
      refine (?_ : ∀ (n i : Nat) (w : Int32) (ls : Array Slot) (H : Heap) (locs : List Loc), i + n = nW x → w = (zEdF X t i).2 → gH D (mR k) (zEdF X t i).1 A s.heap H locs → lv_has ls 8 [(0, .ref (mO k)), (1, .int (nI t)), (4, .int w), (5, .int (nI i))] → W p l e _ s m _ below meth c H locs 0 0 _ (F0 m 26 ls [])) (nW x) 0 0 ls _ _ (Nat.zero_add _) rfl hG (lv_sub hl [2, 3, 1, 0] rfl)
      intro n
      induction n with
      | zero =>
        intro i w ls H locs hin hw hG hl
        obtain ⟨y, hR, hH⟩ := mR.out hG
        have hnW := hR.n.2.1
        rw [(zEdF_60 X t).1, hXW] at hnW
        refine lv_iload hx hb dM_edition_26 (lv_at hl 3 rfl) ?_
        first | refine lv_aload_n hx hb dM_edition_28 rfl (lv_at hl 0 rfl) ?_ | refine lv_aload_nN hx hb dM_edition_28 rfl (lv_at hl 0 rfl) ?_
        refine gM_workers hC hH dM_edition_29 ?_
        refine lv_icmp_ge  (tgt := 104) hx hb dM_edition_32 (by decide) (fun h9 => ?_) (fun h9 => ?_)
        · refine lv_iload hx hb dM_edition_104 (lv_at hl 2 rfl) ?_
          obtain rfl : i = nW x := by omega
          have e := (zEdF_60 X t).2 (60 - nW x)
          rw [hXW, show nW x + (60 - nW x) = 60 by omega] at e
          exact grWi hC hr hlk rfl hG (by simp only [zEdi, hkk, hX]; rw [hw, e]) dM_edition_106
        · exact absurd (by rw [hnW]; exact nI_le (by omega) (by omega)) h9
      | succ n ih =>
        intro i w ls H locs hin hw hG hl
        obtain ⟨y, hR, hH⟩ := mR.out hG
        have hnW := hR.n.2.1
        rw [(zEdF_60 X t).1, hXW] at hnW
        have hi2 : i < nW (zEdF X t i).1 := by rw [(zEdF_60 X t).1, hXW]; omega
        have hi3 : i < 60 := by omega
        have q0 := hR.2.2.2.2.1 i hi2
        refine lv_iload hx hb dM_edition_26 (lv_at hl 3 rfl) ?_
        first | refine lv_aload_n hx hb dM_edition_28 rfl (lv_at hl 0 rfl) ?_ | refine lv_aload_nN hx hb dM_edition_28 rfl (lv_at hl 0 rfl) ?_
        refine gM_workers hC hH dM_edition_29 ?_
        refine lv_icmp_ge  (tgt := 104) hx hb dM_edition_32 (by decide) (fun h9 => ?_) (fun h9 => ?_)
        · exact absurd h9 (by rw [hnW]; exact nI_ge (by omega) (by omega))
        · first | refine lv_aload_n hx hb dM_edition_35 rfl (lv_at hl 0 rfl) ?_ | refine lv_aload_nN hx hb dM_edition_35 rfl (lv_at hl 0 rfl) ?_
          refine gM_toolOf hC hH dM_edition_36 ?_
          refine lv_iload hx hb dM_edition_39 (lv_at hl 3 rfl) ?_
          refine aM_i hC hH (by decide) (by assumption) dM_edition_41 ?_
          refine lv_iload_n hx hb dM_edition_42 rfl (lv_at hl 1 rfl) ?_
          refine lv_icmp_ne  (tgt := 98) hx hb dM_edition_43 (by decide) (fun h1 => ?_) (fun h1 => ?_)
          · refine lv_iinc hx hb dM_edition_98 hl (k := 3) rfl rfl (by decide) rfl (fun ls hl => ?_)
            have hl : lv_has ls 8 [(5, _), (0, _), (1, _), (4, _)] := hl
            refine lv_goto (tgt := 26) hx hb dM_edition_101 (by decide) ?_
            have hs : zEdF X t (i + 1) = zEdF X t i := if_neg (fun q => h1 ((hR.col10 hi2 (by omega)).mpr q.2.1))
            exact ih (i + 1) w ls H locs (by omega) (by rw [hs]; exact hw) (by rw [hs]; exact hG) (by rw [← nI_1 i]; exact lv_sub hl [1, 2, 3, 0] rfl)
          · have h1 := (hR.col10 hi2 (by omega)).mp h1
            first | refine lv_aload_n hx hb dM_edition_46 rfl (lv_at hl 0 rfl) ?_ | refine lv_aload_nN hx hb dM_edition_46 rfl (lv_at hl 0 rfl) ?_
            refine gM_state hC hH dM_edition_47 ?_
            refine lv_iload hx hb dM_edition_50 (lv_at hl 3 rfl) ?_
            refine aM_i hC hH (by decide) (by assumption) dM_edition_52 ?_
            refine lv_iconst (v := 2) hx hb dM_edition_53 (by decide) ?_
            rw [q0.2.1]
            refine lv_icmp_eq  (tgt := 98) hx hb dM_edition_54 (by decide) (fun h2 => ?_) (fun h2 => ?_)
            · refine lv_iinc hx hb dM_edition_98 hl (k := 3) rfl rfl (by decide) rfl (fun ls hl => ?_)
              have hl : lv_has ls 8 [(5, _), (0, _), (1, _), (4, _)] := hl
              refine lv_goto (tgt := 26) hx hb dM_edition_101 (by decide) ?_
              have hs : zEdF X t (i + 1) = zEdF X t i := if_neg (fun q => zSt_2.mp h2 q.2.2)
              exact ih (i + 1) w ls H locs (by omega) (by rw [hs]; exact hw) (by rw [hs]; exact hG) (by rw [← nI_1 i]; exact lv_sub hl [1, 2, 3, 0] rfl)
            · have h0 : wEn (gW (zEdF X t i).1 i) = 0 := Classical.byContradiction (fun z => h2 (zSt_2.mpr z))
              have hs : zEdF X t (i + 1) = (zEndRe (zEdF X t i).1 i 1, (zEdF X t i).2 + 1) := if_pos ⟨hi2, h1, h0⟩
              first | refine lv_aload_n hx hb dM_edition_57 rfl (lv_at hl 0 rfl) ?_ | refine lv_aload_nN hx hb dM_edition_57 rfl (lv_at hl 0 rfl) ?_
              refine gM_state hC hH dM_edition_58 ?_
              refine lv_iload hx hb dM_edition_61 (lv_at hl 3 rfl) ?_
              refine aM_i hC hH (by decide) (by assumption) dM_edition_63 ?_
              refine lv_iconst (v := 1) hx hb dM_edition_64 (by decide) ?_
              rw [q0.2.1]
              refine lv_icmp_ne  (tgt := 72) hx hb dM_edition_65 (by decide) (fun h3 => ?_) (fun h3 => ?_)
              · have hq : wRq (gW (zEdF X t i).1 i) = none := Classical.byContradiction (fun z => h3 (zSt_1.mpr ⟨h0, z⟩))
                refine lv_iconst (v := 0) hx hb dM_edition_72 (by decide) ?_
                refine lv_istore hx hb dM_edition_73 hl (by decide) rfl (fun ls hl => ?_)
                have hl : lv_has ls 8 [(6, _), (0, _), (1, _), (4, _), (5, _)] := hl
                first | refine lv_aload_n hx hb dM_edition_75 rfl (lv_at hl 1 rfl) ?_ | refine lv_aload_nN hx hb dM_edition_75 rfl (lv_at hl 1 rfl) ?_
                refine lv_iload hx hb dM_edition_76 (lv_at hl 4 rfl) ?_
                refine lv_iconst (v := 1) hx hb dM_edition_78 (by decide) ?_
                refine gcWVi hC hl.1 hA hH (fun LL f sz hI => m_ends hI hi3 1) mJ.o rfl rfl kM_137 ⟨Nat.le_of_ble_eq_true rfl, Nat.le_of_ble_eq_true rfl⟩ dM_edition_79 ⟨Nat.le_of_ble_eq_true rfl, Nat.le_of_ble_eq_true rfl⟩ rfl (Nat.le_of_ble_eq_true rfl) (fun r u H locs hp hH => ?_)
                obtain ⟨hp1, hp2⟩ := hp
                subst hp1
                have hR3 := (hR.endRe0 hi2 (r := 1) (by decide) hq).2
                refine lv_istore hx hb dM_edition_82 hl (by decide) rfl (fun ls hl => ?_)
                have hl : lv_has ls 8 [(7, _), (6, _), (0, _), (1, _), (4, _), (5, _)] := hl
                refine lv_iload hx hb dM_edition_84 (lv_at hl 1 rfl) ?_
                refine lv_if_eq  (tgt := 95) hx hb dM_edition_86 (by decide) (fun h4 => ?_) (fun h4 => ?_)
                · refine lv_iinc hx hb dM_edition_95 hl (k := 4) rfl rfl (by decide) rfl (fun ls hl => ?_)
                  have hl : lv_has ls 8 [(4, _), (7, _), (6, _), (0, _), (1, _), (5, _)] := hl
                  refine lv_iinc hx hb dM_edition_98 hl (k := 5) rfl rfl (by decide) rfl (fun ls hl => ?_)
                  have hl : lv_has ls 8 [(5, _), (4, _), (7, _), (6, _), (0, _), (1, _)] := hl
                  refine lv_goto (tgt := 26) hx hb dM_edition_101 (by decide) ?_
                  exact ih (i + 1) (w + Int32.ofInt 1) ls H locs (by omega) (by rw [hs, hw]; rfl) (by rw [hs]; exact mR.in hR3 hH) (by rw [← nI_1 i]; exact lv_sub hl [4, 5, 1, 0] rfl)
                · exact absurd rfl h4
              · rcases hq : wRq (gW (zEdF X t i).1 i) with _ | j
                · exact absurd hq (zSt_1.mp h3).2
                · have hj := (hR.2.1.2.1 i hi2).2 j hq
                  have hj3 : j < 100 := Nat.lt_of_lt_of_le hj hR.2.1.1.2.2
                  refine lv_iconst (v := 1) hx hb dM_edition_68 (by decide) ?_
                  refine lv_goto (tgt := 73) hx hb dM_edition_69 (by decide) ?_
                  refine lv_istore hx hb dM_edition_73 hl (by decide) rfl (fun ls hl => ?_)
                  have hl : lv_has ls 8 [(6, _), (0, _), (1, _), (4, _), (5, _)] := hl
                  first | refine lv_aload_n hx hb dM_edition_75 rfl (lv_at hl 1 rfl) ?_ | refine lv_aload_nN hx hb dM_edition_75 rfl (lv_at hl 1 rfl) ?_
                  refine lv_iload hx hb dM_edition_76 (lv_at hl 4 rfl) ?_
                  refine lv_iconst (v := 1) hx hb dM_edition_78 (by decide) ?_
                  refine gcWVi hC hl.1 hA hH (fun LL f sz hI => m_ends hI hi3 1) mJ.o rfl rfl kM_137 ⟨Nat.le_of_ble_eq_true rfl, Nat.le_of_ble_eq_true rfl⟩ dM_edition_79 ⟨Nat.le_of_ble_eq_true rfl, Nat.le_of_ble_eq_true rfl⟩ rfl (Nat.le_of_ble_eq_true rfl) (fun r u H locs hp hH => ?_)
                  obtain ⟨hp1, hp2⟩ := hp
                  subst hp1
                  obtain rfl : r = nI j := by rw [hp2]; exact q0.2.2.2.2.1 j hq
                  have hR3 := hR.endRe1 hi2 (r := 1) (by decide) hq
                  refine lv_istore hx hb dM_edition_82 hl (by decide) rfl (fun ls hl => ?_)
                  have hl : lv_has ls 8 [(7, _), (6, _), (0, _), (1, _), (4, _), (5, _)] := hl
                  refine lv_iload hx hb dM_edition_84 (lv_at hl 1 rfl) ?_
                  refine lv_if_eq  (tgt := 95) hx hb dM_edition_86 (by decide) (fun h4 => ?_) (fun h4 => ?_)
                  · exact absurd h4 (by decide)
                  · first | refine lv_aload_n hx hb dM_edition_89 rfl (lv_at hl 2 rfl) ?_ | refine lv_aload_nN hx hb dM_edition_89 rfl (lv_at hl 2 rfl) ?_
                    refine lv_iload hx hb dM_edition_90 (lv_at hl 0 rfl) ?_
                    refine gcWVv hC hl.1 hA hH (fun LL f sz hI => m_waitsAgain hI hj3) mJ.o rfl rfl kM_141 ⟨Nat.le_of_ble_eq_true rfl, Nat.le_of_ble_eq_true rfl⟩ dM_edition_92 ⟨Nat.le_of_ble_eq_true rfl, Nat.le_of_ble_eq_true rfl⟩ rfl (Nat.le_of_ble_eq_true rfl) (fun u H locs hp hH => ?_)
                    subst hp
                    refine lv_iinc hx hb dM_edition_95 hl (k := 4) rfl rfl (by decide) rfl (fun ls hl => ?_)
                    have hl : lv_has ls 8 [(4, _), (7, _), (6, _), (0, _), (1, _), (5, _)] := hl
                    refine lv_iinc hx hb dM_edition_98 hl (k := 5) rfl rfl (by decide) rfl (fun ls hl => ?_)
                    have hl : lv_has ls 8 [(5, _), (4, _), (7, _), (6, _), (0, _), (1, _)] := hl
                    refine lv_goto (tgt := 26) hx hb dM_edition_101 (by decide) ?_
                    exact ih (i + 1) (w + Int32.ofInt 1) ls H locs (by omega) (by rw [hs, hw]; rfl) (by rw [hs]; exact mR.in hR3 hH) (by rw [← nI_1 i]; exact lv_sub hl [4, 5, 1, 0] rfl)
    · exact absurd h (by decide)
  · have hkk : lk (nT x) v = none := lk_out (fun i hi => hv i (by rw [hnT]; exact hi))
    refine lv_if_ne  (tgt := 13) hx hb dM_edition_8 (by decide) (fun h => ?_) (fun h => ?_)
    · exact absurd rfl h
    · refine lv_iconst (v := -1) hx hb dM_edition_11 (by decide) ?_
      exact grWi hC hr hlk rfl (mR.in hR hH) (by simp only [zEdi, hkk]) dM_edition_12
set_option maxHeartbeats 600000 in
set_option maxRecDepth 100000 in
theorem m_tick (hI : mR k x LL f) (v : Int32) : Met l yM_tick (wz yM_tick bM_tick 5 (some .int)) (rmL 1 0 0) (gP D (mk_tys k) LL f sz [.ref (mO k), .int v]) (va_Qi (fun (r : Int32) (u : cs_S) => (u, r) = zTick x v) (gB D (mk_tys k) (mR k) (va_A (va_pl LL f) sz)) (va_A (va_pl LL f) sz)) 0 0 (va_A (va_pl LL f) sz) := by
  refine gMet (own := RX4) (u := x) (Qc := fun A => va_Qi (fun (r : Int32) (u : cs_S) => (u, r) = zTick x v) (gB D (mk_tys k) (mR k) A) A) (by decide) rfl hI (Nat.le_of_ble_eq_true rfl) ?_
  intro p e s m below meth c ls A hC hr hlk hnm hA hH hl
  obtain ⟨y, hR, hH⟩ := mR.out hH
  obtain ⟨hnT, hnW, hnR⟩ := hR.n
  have hok := hR.2.1
  have hb6 := hok.1.1
  have hb60 := hok.1.2.1
  have hb100 := hok.1.2.2
  have hx := hC.1
  have hb := hC.2.1
  have hml := hC.2.2.2.2.2
  have hts := hC.2.2.1
  have hown := hC.2.2.2.1
  have hl : lv_has ls 5 [(0, _), (1, _)] := hl
  have hcl : yCl y = cCl x := hR.1.2.1
  refine lv_iload_n hx hb dM_tick_0 rfl (lv_at hl 1 rfl) ?_
  refine lv_if_lt  (tgt := 22) hx hb dM_tick_1 (by decide) (fun h => ?_) (fun h => ?_)
  · refine lv_iconst (v := -1) hx hb dM_tick_22 (by decide) ?_
    exact grWi hC hr hlk rfl (mR.in hR hH) (by rw [zTick, if_pos (Or.inl h)]) dM_tick_23
  · refine lv_iload_n hx hb dM_tick_4 rfl (lv_at hl 1 rfl) ?_
    refine lv_sipush (v := 10000) hx hb dM_tick_5 (by decide) ?_
    refine lv_icmp_gt  (tgt := 22) hx hb dM_tick_8 (by decide) (fun h2 => ?_) (fun h2 => ?_)
    · refine lv_iconst (v := -1) hx hb dM_tick_22 (by decide) ?_
      exact grWi hC hr hlk rfl (mR.in hR hH) (by rw [zTick, if_pos (Or.inr (Or.inl h2))]) dM_tick_23
    · have htl := tick_le hR.2.2.1.1 hR.2.2.1.2 h h2
      first | refine lv_aload_n hx hb dM_tick_11 rfl (lv_at hl 0 rfl) ?_ | refine lv_aload_nN hx hb dM_tick_11 rfl (lv_at hl 0 rfl) ?_
      refine gM_clock hC hH dM_tick_12 ?_
      refine lv_iload_n hx hb dM_tick_15 rfl (lv_at hl 1 rfl) ?_
      refine lv_iadd hx hb dM_tick_16 ?_
      refine lv_ldc hx hb hown (hts _ wq_M_145) dM_tick_17 ?_
      rw [hcl]
      refine lv_icmp_le  (tgt := 24) hx hb dM_tick_19 (by decide) (fun h3 => ?_) (fun h3 => ?_)
      · have hR2 : Rel (sCl x (cCl x + v)) (sYcl y (yCl y + v)) := ⟨⟨hR.1.1, by show yCl y + v = _; rw [hcl], hR.1.2.2⟩, hR.2.1, htl.2 h3, hR.2.2.2.1, hR.2.2.2.2.1, hR.2.2.2.2.2.1, hR.2.2.2.2.2.2.1, hR.2.2.2.2.2.2.2.1, hR.2.2.2.2.2.2.2.2⟩
        first | refine lv_aload_n hx hb dM_tick_24 rfl (lv_at hl 0 rfl) ?_ | refine lv_aload_nN hx hb dM_tick_24 rfl (lv_at hl 0 rfl) ?_
        refine lv_dup hx hb dM_tick_25 rfl ?_
        refine gM_clock hC hH dM_tick_26 ?_
        refine lv_iload_n hx hb dM_tick_29 rfl (lv_at hl 1 rfl) ?_
        refine lv_iadd hx hb dM_tick_30 ?_
        refine pM_clock hC hH dM_tick_31 (fun H locs hH => ?_)
        refine lv_iconst (v := 0) hx hb dM_tick_34 (by decide) ?_
        refine lv_istore_n hx hb dM_tick_35 rfl hl (by decide) rfl (fun ls hl => ?_)
        have hl : lv_has ls 5 [(2, _), (0, _), (1, _)] := hl
        refine lv_iconst (v := 0) hx hb dM_tick_36 (by decide) ?_
        refine lv_istore_n hx hb dM_tick_37 rfl hl (by decide) rfl (fun ls hl => ?_)
        have hl : lv_has ls 5 [(3, _), (2, _), (0, _), (1, _)] := hl
        have hG := mR.in hR2 hH
        have hXW : nW (sCl x (cCl x + v)) = nW x := rfl
        generalize hX : sCl x (cCl x + v) = X at hG hXW
        refine (?_ : ∀ (n i : Nat) (w : Int32) (ls : Array Slot) (H : Heap) (locs : List Loc), i + n = nW x → w = (zTkF X i).2 → gH D (mR k) (zTkF X i).1 A s.heap H locs → lv_has ls 5 [(0, .ref (mO k)), (2, .int w), (3, .int (nI i))] → W p l e _ s m _ below meth c H locs 0 0 _ (F0 m 38 ls [])) (nW x) 0 0 ls _ _ (Nat.zero_add _) rfl hG (lv_sub hl [2, 1, 0] rfl)
        intro n
        induction n with
        | zero =>
          intro i w ls H locs hin hw hG hl
          obtain ⟨y, hR, hH⟩ := mR.out hG
          have hnW := hR.n.2.1
          rw [((zTkF_60 X).1 _).1, hXW] at hnW
          refine lv_iload_n hx hb dM_tick_38 rfl (lv_at hl 2 rfl) ?_
          first | refine lv_aload_n hx hb dM_tick_39 rfl (lv_at hl 0 rfl) ?_ | refine lv_aload_nN hx hb dM_tick_39 rfl (lv_at hl 0 rfl) ?_
          refine gM_workers hC hH dM_tick_40 ?_
          refine lv_icmp_ge  (tgt := 90) hx hb dM_tick_43 (by decide) (fun h9 => ?_) (fun h9 => ?_)
          · refine lv_iload_n hx hb dM_tick_90 rfl (lv_at hl 1 rfl) ?_
            obtain rfl : i = nW x := by omega
            have e := (zTkF_60 X).2 (60 - nW x)
            rw [hXW, show nW x + (60 - nW x) = 60 by omega] at e
            exact grWi hC hr hlk rfl hG (by rw [zTick, if_neg (by rintro (q | q | q); exact h q; exact h2 q; exact q (htl.1.mp h3)), hX, hw, e]) dM_tick_91
          · exact absurd (by rw [hnW]; exact nI_le (by omega) (by omega)) h9
        | succ n ih =>
          intro i w ls H locs hin hw hG hl
          obtain ⟨y, hR, hH⟩ := mR.out hG
          have hnW := hR.n.2.1
          rw [((zTkF_60 X).1 _).1, hXW] at hnW
          have hi2 : i < nW (zTkF X i).1 := by rw [((zTkF_60 X).1 _).1, hXW]; omega
          have hi3 : i < 60 := by omega
          have q0 := hR.2.2.2.2.1 i hi2
          have hc2 : yCl y = cCl (zTkF X i).1 := hR.1.2.1
          have hd2 : yId y = cId (zTkF X i).1 := congrArg (fun q => q.2.2) hR.1.1
          refine lv_iload_n hx hb dM_tick_38 rfl (lv_at hl 2 rfl) ?_
          first | refine lv_aload_n hx hb dM_tick_39 rfl (lv_at hl 0 rfl) ?_ | refine lv_aload_nN hx hb dM_tick_39 rfl (lv_at hl 0 rfl) ?_
          refine gM_workers hC hH dM_tick_40 ?_
          refine lv_icmp_ge  (tgt := 90) hx hb dM_tick_43 (by decide) (fun h9 => ?_) (fun h9 => ?_)
          · exact absurd h9 (by rw [hnW]; exact nI_ge (by omega) (by omega))
          · first | refine lv_aload_n hx hb dM_tick_46 rfl (lv_at hl 0 rfl) ?_ | refine lv_aload_nN hx hb dM_tick_46 rfl (lv_at hl 0 rfl) ?_
            refine gM_state hC hH dM_tick_47 ?_
            refine lv_iload_n hx hb dM_tick_50 rfl (lv_at hl 2 rfl) ?_
            refine aM_i hC hH (by decide) (by assumption) dM_tick_51 ?_
            rw [q0.2.1]
            refine lv_if_ne  (tgt := 84) hx hb dM_tick_52 (by decide) (fun h1 => ?_) (fun h1 => ?_)
            · refine lv_iinc hx hb dM_tick_84 hl (k := 2) rfl rfl (by decide) rfl (fun ls hl => ?_)
              have hl : lv_has ls 5 [(3, _), (0, _), (2, _)] := hl
              refine lv_goto (tgt := 38) hx hb dM_tick_87 (by decide) ?_
              have hs : zTkF X (i + 1) = zTkF X i := if_neg (fun q => h1 q.2.1)
              exact ih (i + 1) w ls H locs (by omega) (by rw [hs]; exact hw) (by rw [hs]; exact hG) (by rw [← nI_1 i]; exact lv_sub hl [1, 2, 0] rfl)
            · first | refine lv_aload_n hx hb dM_tick_55 rfl (lv_at hl 0 rfl) ?_ | refine lv_aload_nN hx hb dM_tick_55 rfl (lv_at hl 0 rfl) ?_
              refine gM_clock hC hH dM_tick_56 ?_
              first | refine lv_aload_n hx hb dM_tick_59 rfl (lv_at hl 0 rfl) ?_ | refine lv_aload_nN hx hb dM_tick_59 rfl (lv_at hl 0 rfl) ?_
              refine gM_since hC hH dM_tick_60 ?_
              refine lv_iload_n hx hb dM_tick_63 rfl (lv_at hl 2 rfl) ?_
              refine aM_i hC hH (by decide) (by assumption) dM_tick_64 ?_
              refine lv_isub hx hb dM_tick_65 ?_
              first | refine lv_aload_n hx hb dM_tick_66 rfl (lv_at hl 0 rfl) ?_ | refine lv_aload_nN hx hb dM_tick_66 rfl (lv_at hl 0 rfl) ?_
              refine gM_idle hC hH dM_tick_67 ?_
              rw [q0.2.2.2.2.2.2.2.1 h1, hc2, hd2]
              refine lv_icmp_lt  (tgt := 84) hx hb dM_tick_70 (by decide) (fun h5 => ?_) (fun h5 => ?_)
              · refine lv_iinc hx hb dM_tick_84 hl (k := 2) rfl rfl (by decide) rfl (fun ls hl => ?_)
                have hl : lv_has ls 5 [(3, _), (0, _), (2, _)] := hl
                refine lv_goto (tgt := 38) hx hb dM_tick_87 (by decide) ?_
                have hs : zTkF X (i + 1) = zTkF X i := if_neg (fun q => q.2.2 h5)
                exact ih (i + 1) w ls H locs (by omega) (by rw [hs]; exact hw) (by rw [hs]; exact hG) (by rw [← nI_1 i]; exact lv_sub hl [1, 2, 0] rfl)
              · have hs : zTkF X (i + 1) = (sW (zTkF X i).1 i (wEn_ (gW (zTkF X i).1 i) 4), (zTkF X i).2 + 1) := if_pos ⟨hi2, h1, h5⟩
                have hR3 := hR.ends0 hi2 (r := 4) (by decide) (zSt_0.mp h1).2
                first | refine lv_aload_n hx hb dM_tick_73 rfl (lv_at hl 0 rfl) ?_ | refine lv_aload_nN hx hb dM_tick_73 rfl (lv_at hl 0 rfl) ?_
                refine lv_iload_n hx hb dM_tick_74 rfl (lv_at hl 2 rfl) ?_
                refine lv_iconst (v := 4) hx hb dM_tick_75 (by decide) ?_
                refine gcWVi hC hl.1 hA hH (fun LL f sz hI => m_ends hI hi3 4) mJ.o rfl rfl kM_137 ⟨Nat.le_of_ble_eq_true rfl, Nat.le_of_ble_eq_true rfl⟩ dM_tick_76 ⟨Nat.le_of_ble_eq_true rfl, Nat.le_of_ble_eq_true rfl⟩ rfl (Nat.le_of_ble_eq_true rfl) (fun r u H locs hp hH => ?_)
                obtain ⟨hp1, hp2⟩ := hp
                subst hp1
                refine lv_istore hx hb dM_tick_79 hl (by decide) rfl (fun ls hl => ?_)
                have hl : lv_has ls 5 [(4, _), (0, _), (2, _), (3, _)] := hl
                refine lv_iinc hx hb dM_tick_81 hl (k := 2) rfl rfl (by decide) rfl (fun ls hl => ?_)
                have hl : lv_has ls 5 [(2, _), (4, _), (0, _), (3, _)] := hl
                refine lv_iinc hx hb dM_tick_84 hl (k := 3) rfl rfl (by decide) rfl (fun ls hl => ?_)
                have hl : lv_has ls 5 [(3, _), (2, _), (4, _), (0, _)] := hl
                refine lv_goto (tgt := 38) hx hb dM_tick_87 (by decide) ?_
                exact ih (i + 1) (w + Int32.ofInt 1) ls H locs (by omega) (by rw [hs, hw]; rfl) (by rw [hs]; exact mR.in hR3 hH) (by rw [← nI_1 i]; exact lv_sub hl [3, 1, 0] rfl)
      · refine lv_iconst (v := -1) hx hb dM_tick_22 (by decide) ?_
        exact grWi hC hr hlk rfl (mR.in hR hH) (by rw [zTick, if_pos (Or.inr (Or.inr (fun q => h3 (htl.1.mpr q))))]) dM_tick_23
end M5
end
section
section M6
theorem Rel.fin {x : cs_S} {y y1 : ms_S} {i j : Nat} {r' : cs_R} (h : Rel x y) (hi : i < nW x) (hq : wRq (gW x i) = some j) (hf : fr y y1 1000 j) (hf2 : fr y y1 i j) (hr : RR r' y1 j) (ht : rTo r' = rTo (gR x j)) (hn : rWk r' = none ∨ rWk r' = some i) : Rel (sR (sW x i (wFr_ (zFinW x i j) (cCl x))) j r') (sMI (sMI (sMI (sMI (sMI y1 12 i (wFi (gW x i) + 1)) 13 i (wMe (gW x i) + rSz (gR x j))) 14 i (-1)) 11 i 0) 17 i (yCl (sMI (sMI (sMI (sMI y1 12 i (wFi (gW x i) + 1)) 13 i (wMe (gW x i) + rSz (gR x j))) 14 i (-1)) 11 i 0))) ∧ Rel (sR (sW x i (wEn_ (zFinW x i j) 2)) j r') (yEnd (sMI (sMI (sMI (sMI (sMI y1 12 i (wFi (gW x i) + 1)) 13 i (wMe (gW x i) + rSz (gR x j))) 14 i (-1)) 11 i 0) 17 i (yCl (sMI (sMI (sMI (sMI y1 12 i (wFi (gW x i) + 1)) 13 i (wMe (gW x i) + rSz (gR x j))) 14 i (-1)) 11 i 0))) i 2) := by
  have hj := (h.2.1.2.1 i hi).2 j hq
  have hb60 := h.2.1.1.2.1
  have hb100 := h.2.1.1.2.2
  have e := fun a (ha : a < 19) => hf.2 a i (Or.inr (Or.inl ⟨ha, by omega⟩))
  obtain ⟨q1, q2, q3, q4, q5, q6, q7, q8, q9, q10⟩ := h.2.2.2.2.1 i hi
  have hen : wEn (gW x i) = 0 := Classical.byContradiction (fun z => by rw [q10 z] at hq; cases hq)
  have hcl : yCl (sMI (sMI (sMI (sMI y1 12 i (wFi (gW x i) + 1)) 13 i (wMe (gW x i) + rSz (gR x j))) 14 i (-1)) 11 i 0) = cCl x := (show y1.2.1 = _ from hf.1.2.1).trans h.1.2.1
  have hfr : fr y (sMI (sMI (sMI (sMI (sMI y1 12 i (wFi (gW x i) + 1)) 13 i (wMe (gW x i) + rSz (gR x j))) 14 i (-1)) 11 i 0) 17 i (yCl (sMI (sMI (sMI (sMI y1 12 i (wFi (gW x i) + 1)) 13 i (wMe (gW x i) + rSz (gR x j))) 14 i (-1)) 11 i 0))) i j := ((((hf2.iW 12 _ (by decide)).iW 13 _ (by decide)).iW 14 _ (by decide)).iW 11 _ (by decide)).iW 17 _ (by decide)
  have hfr1 : fr y1 (sMI (sMI (sMI (sMI (sMI y1 12 i (wFi (gW x i) + 1)) 13 i (wMe (gW x i) + rSz (gR x j))) 14 i (-1)) 11 i 0) 17 i (yCl (sMI (sMI (sMI (sMI y1 12 i (wFi (gW x i) + 1)) 13 i (wMe (gW x i) + rSz (gR x j))) 14 i (-1)) 11 i 0))) i 1000 := ((((fr.rf.iW 12 _ (by decide)).iW 13 _ (by decide)).iW 14 _ (by decide)).iW 11 _ (by decide)).iW 17 _ (by decide)
  have okr : rTo r' < nT x ∧ ∀ a, rWk r' = some a → a < nW x := ⟨by rw [ht]; exact (h.2.1.2.2 j hj).1, fun a z => by
    rcases hn with hn | hn
    · rw [hn] at z; cases z
    · rw [hn] at z; cases z; exact hi⟩
  have c10 : MI (sMI (sMI (sMI (sMI (sMI y1 12 i (wFi (gW x i) + 1)) 13 i (wMe (gW x i) + rSz (gR x j))) 14 i (-1)) 11 i 0) 17 i (yCl (sMI (sMI (sMI (sMI y1 12 i (wFi (gW x i) + 1)) 13 i (wMe (gW x i) + rSz (gR x j))) 14 i (-1)) 11 i 0))) 10 i = nI (wTo (gW x i)) := (show MI (sMI (sMI (sMI (sMI (sMI y1 12 i (wFi (gW x i) + 1)) 13 i (wMe (gW x i) + rSz (gR x j))) 14 i (-1)) 11 i 0) 17 i (yCl (sMI (sMI (sMI (sMI y1 12 i (wFi (gW x i) + 1)) 13 i (wMe (gW x i) + rSz (gR x j))) 14 i (-1)) 11 i 0))) 10 i = MI y1 10 i from by simp [MI_sMI]).trans ((e 10 (by omega)).1.trans q1)
  have c12 : MI (sMI (sMI (sMI (sMI (sMI y1 12 i (wFi (gW x i) + 1)) 13 i (wMe (gW x i) + rSz (gR x j))) 14 i (-1)) 11 i 0) 17 i (yCl (sMI (sMI (sMI (sMI y1 12 i (wFi (gW x i) + 1)) 13 i (wMe (gW x i) + rSz (gR x j))) 14 i (-1)) 11 i 0))) 12 i = wFi (gW x i) + 1 := by simp [MI_sMI]
  have c13 : MI (sMI (sMI (sMI (sMI (sMI y1 12 i (wFi (gW x i) + 1)) 13 i (wMe (gW x i) + rSz (gR x j))) 14 i (-1)) 11 i 0) 17 i (yCl (sMI (sMI (sMI (sMI y1 12 i (wFi (gW x i) + 1)) 13 i (wMe (gW x i) + rSz (gR x j))) 14 i (-1)) 11 i 0))) 13 i = wMe (gW x i) + rSz (gR x j) := by simp [MI_sMI]
  have c11 : MI (sMI (sMI (sMI (sMI (sMI y1 12 i (wFi (gW x i) + 1)) 13 i (wMe (gW x i) + rSz (gR x j))) 14 i (-1)) 11 i 0) 17 i (yCl (sMI (sMI (sMI (sMI y1 12 i (wFi (gW x i) + 1)) 13 i (wMe (gW x i) + rSz (gR x j))) 14 i (-1)) 11 i 0))) 11 i = 0 := by simp [MI_sMI]
  have c15 : MI (sMI (sMI (sMI (sMI (sMI y1 12 i (wFi (gW x i) + 1)) 13 i (wMe (gW x i) + rSz (gR x j))) 14 i (-1)) 11 i 0) 17 i (yCl (sMI (sMI (sMI (sMI y1 12 i (wFi (gW x i) + 1)) 13 i (wMe (gW x i) + rSz (gR x j))) 14 i (-1)) 11 i 0))) 15 i = wEn (gW x i) := (show MI (sMI (sMI (sMI (sMI (sMI y1 12 i (wFi (gW x i) + 1)) 13 i (wMe (gW x i) + rSz (gR x j))) 14 i (-1)) 11 i 0) 17 i (yCl (sMI (sMI (sMI (sMI y1 12 i (wFi (gW x i) + 1)) 13 i (wMe (gW x i) + rSz (gR x j))) 14 i (-1)) 11 i 0))) 15 i = MI y1 15 i from by simp [MI_sMI]).trans ((e 15 (by omega)).1.trans q6)
  have c16 : MI (sMI (sMI (sMI (sMI (sMI y1 12 i (wFi (gW x i) + 1)) 13 i (wMe (gW x i) + rSz (gR x j))) 14 i (-1)) 11 i 0) 17 i (yCl (sMI (sMI (sMI (sMI y1 12 i (wFi (gW x i) + 1)) 13 i (wMe (gW x i) + rSz (gR x j))) 14 i (-1)) 11 i 0))) 16 i = wTr (gW x i) := (show MI (sMI (sMI (sMI (sMI (sMI y1 12 i (wFi (gW x i) + 1)) 13 i (wMe (gW x i) + rSz (gR x j))) 14 i (-1)) 11 i 0) 17 i (yCl (sMI (sMI (sMI (sMI y1 12 i (wFi (gW x i) + 1)) 13 i (wMe (gW x i) + rSz (gR x j))) 14 i (-1)) 11 i 0))) 16 i = MI y1 16 i from by simp [MI_sMI]).trans ((e 16 (by omega)).1.trans q7)
  have c17 : MI (sMI (sMI (sMI (sMI (sMI y1 12 i (wFi (gW x i) + 1)) 13 i (wMe (gW x i) + rSz (gR x j))) 14 i (-1)) 11 i 0) 17 i (yCl (sMI (sMI (sMI (sMI y1 12 i (wFi (gW x i) + 1)) 13 i (wMe (gW x i) + rSz (gR x j))) 14 i (-1)) 11 i 0))) 17 i = cCl x := (show MI (sMI (sMI (sMI (sMI (sMI y1 12 i (wFi (gW x i) + 1)) 13 i (wMe (gW x i) + rSz (gR x j))) 14 i (-1)) 11 i 0) 17 i (yCl (sMI (sMI (sMI (sMI y1 12 i (wFi (gW x i) + 1)) 13 i (wMe (gW x i) + rSz (gR x j))) 14 i (-1)) 11 i 0))) 17 i = yCl (sMI (sMI (sMI (sMI y1 12 i (wFi (gW x i) + 1)) 13 i (wMe (gW x i) + rSz (gR x j))) 14 i (-1)) 11 i 0) from by simp [MI_sMI]).trans hcl
  have c18 : ML (sMI (sMI (sMI (sMI (sMI y1 12 i (wFi (gW x i) + 1)) 13 i (wMe (gW x i) + rSz (gR x j))) 14 i (-1)) 11 i 0) 17 i (yCl (sMI (sMI (sMI (sMI y1 12 i (wFi (gW x i) + 1)) 13 i (wMe (gW x i) + rSz (gR x j))) 14 i (-1)) 11 i 0))) 18 i = wEd (gW x i) := (e 18 (by omega)).2.trans q9
  have hr6 : RR r' (sMI (sMI (sMI (sMI (sMI y1 12 i (wFi (gW x i) + 1)) 13 i (wMe (gW x i) + rSz (gR x j))) 14 i (-1)) 11 i 0) 17 i (yCl (sMI (sMI (sMI (sMI y1 12 i (wFi (gW x i) + 1)) 13 i (wMe (gW x i) + rSz (gR x j))) 14 i (-1)) 11 i 0))) j := hr.mv hfr1 (by omega)
  generalize sMI (sMI (sMI (sMI (sMI y1 12 i (wFi (gW x i) + 1)) 13 i (wMe (gW x i) + rSz (gR x j))) 14 i (-1)) 11 i 0) 17 i (yCl (sMI (sMI (sMI (sMI y1 12 i (wFi (gW x i) + 1)) 13 i (wMe (gW x i) + rSz (gR x j))) 14 i (-1)) 11 i 0)) = y6 at hfr hr6 c10 c11 c12 c13 c15 c16 c17 c18 ⊢
  have hz : zSt (wFr_ (zFinW x i j) (cCl x)) = 0 := zSt_0.mpr ⟨hen, rfl⟩
  have hz2 : zSt (wEn_ (zFinW x i j) 2) = 2 := zSt_2.mpr (show ¬ (2 : Int32) = 0 by decide)
  refine ⟨h.upWR hi hj hfr ⟨c10, c11.trans hz.symm, c12, c13, fun a z => (by cases z), c15, c16, fun _ => c17, c18, fun _ => rfl⟩ hr6 ⟨(h.2.1.2.1 i hi).1, fun a z => by cases z⟩ okr (fun a z => by cases z) (h.onlyW hi hq), ?_⟩
  have hE : fr y6 (yEnd y6 i 2) i 1000 := fr.yEnd i 2 1000
  refine h.upWR hi hj (((hfr.iW 11 _ (by decide)).iW 15 _ (by decide)).iW 14 _ (by decide)) ⟨?_, ?_, ?_, ?_, fun a z => (by cases z), ?_, ?_, fun z => absurd (hz2.symm.trans z) (by decide), ?_, fun _ => rfl⟩ (hr6.mv hE (by omega)) ⟨(h.2.1.2.1 i hi).1, fun a z => by cases z⟩ okr (fun a z => by cases z) (h.onlyW hi hq)
  · exact (show MI (yEnd y6 i 2) 10 i = MI y6 10 i from by simp [yEnd, MI_sMI]).trans c10
  · rw [hz2]; simp [yEnd, MI_sMI]
  · exact (show MI (yEnd y6 i 2) 12 i = MI y6 12 i from by simp [yEnd, MI_sMI]).trans c12
  · exact (show MI (yEnd y6 i 2) 13 i = MI y6 13 i from by simp [yEnd, MI_sMI]).trans c13
  · simp [yEnd, MI_sMI]
  · exact (show MI (yEnd y6 i 2) 16 i = MI y6 16 i from by simp [yEnd, MI_sMI]).trans c16
  · exact c18
theorem RR.fin {r : cs_R} {y : ms_S} {i j : Nat} (h : RR r y j) (hw : rWk r = some i) (f1 : Int32) (g : Int64) : RR (qDone (rPl_ r f1) (some i) g) (if MI y 25 j = 0 then sMI (yAns y j g) 23 j f1 else yLet y j) j := by
  by_cases hu : MI y 25 j = 0
  · have hb : rUn r = false := bI_0.mp (by rw [← h.2.2.2.2.2.2.1]; exact hu)
    have e2 : qDone (rPl_ r f1) (some i) g = rRs_ (rWk_ (rSt_ (rPl_ r f1) 2) (some i)) g := if_neg (by show ¬ rUn r = true; rw [hb]; decide)
    obtain ⟨q1, q2, q3, q4, q5, q6, q7, q8, q9, q10, q11⟩ := h
    rw [if_pos hu, e2]
    exact ⟨(show MI (sMI (yAns y j g) 23 j f1) 19 j = MI y 19 j from by simp [MI_sMI, ML_sML, MI_sML, ML_sMI, yAns]).trans q1, (show MI (sMI (yAns y j g) 23 j f1) 20 j = MI y 20 j from by simp [MI_sMI, ML_sML, MI_sML, ML_sMI, yAns]).trans q2, by simp [yAns, MI_sMI, MI_sML], (show MI (sMI (yAns y j g) 23 j f1) 22 j = MI y 22 j from by simp [yAns, MI_sMI, MI_sML]).trans (q4.trans (by rw [hw])), fun _ _ => (by simp [yAns, MI_sMI, MI_sML]), (show MI (sMI (yAns y j g) 23 j f1) 24 j = MI y 24 j from by simp [MI_sMI, ML_sML, MI_sML, ML_sMI, yAns]).trans q6, (show MI (sMI (yAns y j g) 23 j f1) 25 j = MI y 25 j from by simp [MI_sMI, ML_sML, MI_sML, ML_sMI, yAns]).trans q7, (show MI (sMI (yAns y j g) 23 j f1) 26 j = MI y 26 j from by simp [MI_sMI, ML_sML, MI_sML, ML_sMI, yAns]).trans q8, (show ML (sMI (yAns y j g) 23 j f1) 27 j = ML y 27 j from by simp [MI_sMI, ML_sML, MI_sML, ML_sMI, yAns]).trans q9, by simp [yAns, ML_sML, ML_sMI], fun z => absurd (show (2 : Int32) = 0 from z) (by decide)⟩
  · have hb : rUn r = true := bI_f (by rw [← h.2.2.2.2.2.2.1]; exact hu)
    have e2 : qDone (rPl_ r f1) (some i) g = qCan (rPl_ r f1) := if_pos hb
    rw [if_neg hu, e2]
    have q := h.let hu
    exact ⟨q.1, q.2.1, q.2.2.1, q.2.2.2.1, fun z => absurd (show (3 : Int32) = 2 from z) (by decide), q.2.2.2.2.2⟩
variable {l : Launch} {D : va_G} {k : mk_F} {x : cs_S} {LL : List Nat} {f : Nat → va_E} {sz : Nat}
set_option maxHeartbeats 600000 in
set_option maxRecDepth 100000 in
theorem m_isBusy {y : ms_S} (hI : mJ k y LL f) (v : Int32) (hw : yW y ≤ 60) : Met l yM_isBusy (wz yM_isBusy bM_isBusy 2 (some .boolean)) (rmL 1 0 0) (gP D (mk_tys k) LL f sz [.ref (mO k), .int v]) (vp_Si (fun r => (∃ i : Nat, i < yW y ∧ v = nI i ∧ MI y 11 i = 1 ∧ r = 1) ∨ ((∀ i : Nat, i < yW y → v = nI i → ¬ MI y 11 i = 1) ∧ r = 0))) 0 0 (fun _ => False) := by
  refine gMetR (own := RX4) (u := y) (by decide) rfl hI (Nat.le_of_ble_eq_true rfl) ?_
  intro p e s m below meth c ls hC hr hlk hH hl
  have hx := hC.1
  have hb := hC.2.1
  have hml := hC.2.2.2.2.2
  have hts := hC.2.2.1
  have hown := hC.2.2.2.1
  have hl : lv_has ls 2 [(0, _), (1, _)] := hl
  refine lv_iload_n hx hb dM_isBusy_0 rfl (lv_at hl 1 rfl) ?_
  first | refine lv_aload_n hx hb dM_isBusy_1 rfl (lv_at hl 0 rfl) ?_ | refine lv_aload_nN hx hb dM_isBusy_1 rfl (lv_at hl 0 rfl) ?_
  refine gM_workers hC hH dM_isBusy_2 ?_
  refine gcTi hC.fix hl.1 (m_in v (yW y) (by omega)) kM_96 ⟨Nat.le_of_ble_eq_true rfl, Nat.le_of_ble_eq_true rfl⟩ dM_isBusy_5 ⟨Nat.le_of_ble_eq_true rfl, Nat.le_of_ble_eq_true rfl⟩ rfl (Nat.le_of_ble_eq_true rfl) (fun r hr1 => ?_)
  rcases hr1 with ⟨i, hi, hv, rfl⟩ | ⟨hv, rfl⟩
  · subst hv
    have hi3 : i < 60 := by omega
    refine lv_if_eq  (tgt := 25) hx hb dM_isBusy_8 (by decide) (fun h => ?_) (fun h => ?_)
    · exact absurd h (by decide)
    · first | refine lv_aload_n hx hb dM_isBusy_11 rfl (lv_at hl 0 rfl) ?_ | refine lv_aload_nN hx hb dM_isBusy_11 rfl (lv_at hl 0 rfl) ?_
      refine gM_state hC hH dM_isBusy_12 ?_
      refine lv_iload_n hx hb dM_isBusy_15 rfl (lv_at hl 1 rfl) ?_
      refine aM_i hC hH (by decide) (by assumption) dM_isBusy_16 ?_
      refine lv_iconst (v := 1) hx hb dM_isBusy_17 (by decide) ?_
      refine lv_icmp_ne  (tgt := 25) hx hb dM_isBusy_18 (by decide) (fun h2 => ?_) (fun h2 => ?_)
      · refine lv_iconst (v := 0) hx hb dM_isBusy_25 (by decide) ?_
        exact grSi hC hr hlk rfl (Or.inr ⟨fun a ha hva => by rw [← (nI_eq (by omega) (by omega)).mp hva]; exact h2, rfl⟩) dM_isBusy_26
      · refine lv_iconst (v := 1) hx hb dM_isBusy_21 (by decide) ?_
        refine lv_goto (tgt := 26) hx hb dM_isBusy_22 (by decide) ?_
        exact grSi hC hr hlk rfl (Or.inl ⟨i, hi, rfl, h2, rfl⟩) dM_isBusy_26
  · refine lv_if_eq  (tgt := 25) hx hb dM_isBusy_8 (by decide) (fun h => ?_) (fun h => ?_)
    · refine lv_iconst (v := 0) hx hb dM_isBusy_25 (by decide) ?_
      exact grSi hC hr hlk rfl (Or.inr ⟨fun a ha hva => absurd hva (hv a ha), rfl⟩) dM_isBusy_26
    · exact absurd rfl h
set_option maxHeartbeats 600000 in
set_option maxRecDepth 100000 in
theorem fin_tail {p : Program} {e : Env} {R : Room} {s : State} {m : MethodId} {args : Array Value} {below : List Frame} {meth : Method} {c : Code} {H : Heap} {locs : List Loc} {Q : State → Prop} {ls : Array Slot} {A : Nat → Prop} {y y1 : ms_S} {i j : Nat} {r' : cs_R} (hC : mX D k p s m args c bM_finish 4) (hRR : 1 ≤ R.frames ∧ 34 ≤ R.locals) (hA : ∀ q : Nat, s.heap.size ≤ q → A q) (hR : Rel x y) (hi : i < nW x) (hq : wRq (gW x i) = some j) (hf : fr y y1 1000 j) (hf2 : fr y y1 i j) (hr : RR r' y1 j) (ht : rTo r' = rTo (gR x j)) (hn : rWk r' = none ∨ rWk r' = some i) (hsz : rSz r' = rSz (gR x j)) (hH : mG D k y1 A s.heap H locs) (hl : lv_has ls 4 [(0, .ref (mO k)), (1, .int (nI i)), (2, .int (nI j))]) (kk : ∀ (ls : Array Slot) (H1 : Heap) (locs1 : List Loc) (x' : cs_S), x' = (if wMe (zFinW x i j) ≤ cBo x then sR (sW x i (wFr_ (zFinW x i j) (cCl x))) j r' else sR (sW x i (wEn_ (zFinW x i j) 2)) j r') → gH D (mR k) x' A s.heap H1 locs1 → W p l e R s m args below meth c H1 locs1 0 0 Q (F0 m 161 ls [.int (nI j)])) : W p l e R s m args below meth c H locs 0 0 Q (F0 m 91 ls []) := by
  have hok := hR.2.1
  have hj := (hok.2.1 i hi).2 j hq
  have hi60 : i < 60 := Nat.lt_of_lt_of_le hi hok.1.2.1
  have hj3 : j < 100 := Nat.lt_of_lt_of_le hj hok.1.2.2
  obtain ⟨q1, q2, q3, q4, q5, q6, q7, q8, q9, q10⟩ := hR.2.2.2.2.1 i hi
  have ec := fun a (ha : a < 19) => (hf.2 a i (Or.inr (Or.inl ⟨ha, by omega⟩))).1
  have e12 : MI y1 12 i = wFi (gW x i) := (ec 12 (by omega)).trans q3
  have e13 : MI (sMI y1 12 i (wFi (gW x i) + 1)) 13 i = wMe (gW x i) := (show MI (sMI y1 12 i (wFi (gW x i) + 1)) 13 i = MI y1 13 i from by simp [MI_sMI]).trans ((ec 13 (by omega)).trans q4)
  have e20 : MI (sMI y1 12 i (wFi (gW x i) + 1)) 20 j = rSz (gR x j) := (show MI (sMI y1 12 i (wFi (gW x i) + 1)) 20 j = MI y1 20 j from by simp [MI_sMI]).trans (hr.2.1.trans hsz)
  have e13b : MI (sMI (sMI (sMI (sMI (sMI y1 12 i (wFi (gW x i) + 1)) 13 i (wMe (gW x i) + rSz (gR x j))) 14 i (-1)) 11 i 0) 17 i (yCl (sMI (sMI (sMI (sMI y1 12 i (wFi (gW x i) + 1)) 13 i (wMe (gW x i) + rSz (gR x j))) 14 i (-1)) 11 i 0))) 13 i = wMe (gW x i) + rSz (gR x j) := by simp [MI_sMI]
  have hbo : yBo y1 = cBo x := (congrArg (fun q => q.2.1) hf.1.1).trans (congrArg (fun q => q.2.1) hR.1.1)
  obtain ⟨hRa, hRb⟩ := hR.fin hi hq hf hf2 hr ht hn
  have hx := hC.1
  have hb := hC.2.1
  have hml := hC.2.2.2.2.2
  have hts := hC.2.2.1
  have hown := hC.2.2.2.1
  have hl : lv_has ls 4 [(0, _), (1, _), (2, _)] := hl
  first | refine lv_aload_n hx hb dM_finish_91 rfl (lv_at hl 0 rfl) ?_ | refine lv_aload_nN hx hb dM_finish_91 rfl (lv_at hl 0 rfl) ?_
  refine gM_finished hC hH dM_finish_92 ?_
  refine lv_iload_n hx hb dM_finish_95 rfl (lv_at hl 1 rfl) ?_
  refine lv_dup2_11 hx hb dM_finish_96 rfl rfl ?_
  refine aM_i hC hH (by decide) (by assumption) dM_finish_97 ?_
  rw [e12]
  refine lv_iconst (v := 1) hx hb dM_finish_98 (by decide) ?_
  refine lv_iadd hx hb dM_finish_99 ?_
  refine sM_i hC hH (by decide) (by assumption) dM_finish_100 (fun H locs hH => ?_)
  first | refine lv_aload_n hx hb dM_finish_101 rfl (lv_at hl 0 rfl) ?_ | refine lv_aload_nN hx hb dM_finish_101 rfl (lv_at hl 0 rfl) ?_
  refine gM_memory hC hH dM_finish_102 ?_
  refine lv_iload_n hx hb dM_finish_105 rfl (lv_at hl 1 rfl) ?_
  refine lv_dup2_11 hx hb dM_finish_106 rfl rfl ?_
  refine aM_i hC hH (by decide) (by assumption) dM_finish_107 ?_
  rw [e13]
  first | refine lv_aload_n hx hb dM_finish_108 rfl (lv_at hl 0 rfl) ?_ | refine lv_aload_nN hx hb dM_finish_108 rfl (lv_at hl 0 rfl) ?_
  refine gM_size hC hH dM_finish_109 ?_
  refine lv_iload_n hx hb dM_finish_112 rfl (lv_at hl 2 rfl) ?_
  refine aM_i hC hH (by decide) (by assumption) dM_finish_113 ?_
  rw [e20]
  refine lv_iadd hx hb dM_finish_114 ?_
  refine sM_i hC hH (by decide) (by assumption) dM_finish_115 (fun H locs hH => ?_)
  first | refine lv_aload_n hx hb dM_finish_116 rfl (lv_at hl 0 rfl) ?_ | refine lv_aload_nN hx hb dM_finish_116 rfl (lv_at hl 0 rfl) ?_
  refine gM_busyWith hC hH dM_finish_117 ?_
  refine lv_iload_n hx hb dM_finish_120 rfl (lv_at hl 1 rfl) ?_
  refine lv_iconst (v := -1) hx hb dM_finish_121 (by decide) ?_
  refine sM_i hC hH (by decide) (by assumption) dM_finish_122 (fun H locs hH => ?_)
  first | refine lv_aload_n hx hb dM_finish_123 rfl (lv_at hl 0 rfl) ?_ | refine lv_aload_nN hx hb dM_finish_123 rfl (lv_at hl 0 rfl) ?_
  refine gM_state hC hH dM_finish_124 ?_
  refine lv_iload_n hx hb dM_finish_127 rfl (lv_at hl 1 rfl) ?_
  refine lv_iconst (v := 0) hx hb dM_finish_128 (by decide) ?_
  refine sM_i hC hH (by decide) (by assumption) dM_finish_129 (fun H locs hH => ?_)
  first | refine lv_aload_n hx hb dM_finish_130 rfl (lv_at hl 0 rfl) ?_ | refine lv_aload_nN hx hb dM_finish_130 rfl (lv_at hl 0 rfl) ?_
  refine gM_since hC hH dM_finish_131 ?_
  refine lv_iload_n hx hb dM_finish_134 rfl (lv_at hl 1 rfl) ?_
  first | refine lv_aload_n hx hb dM_finish_135 rfl (lv_at hl 0 rfl) ?_ | refine lv_aload_nN hx hb dM_finish_135 rfl (lv_at hl 0 rfl) ?_
  refine gM_clock hC hH dM_finish_136 ?_
  refine sM_i hC hH (by decide) (by assumption) dM_finish_139 (fun H locs hH => ?_)
  first | refine lv_aload_n hx hb dM_finish_140 rfl (lv_at hl 0 rfl) ?_ | refine lv_aload_nN hx hb dM_finish_140 rfl (lv_at hl 0 rfl) ?_
  refine gM_memory hC hH dM_finish_141 ?_
  refine lv_iload_n hx hb dM_finish_144 rfl (lv_at hl 1 rfl) ?_
  refine aM_i hC hH (by decide) (by assumption) dM_finish_145 ?_
  rw [e13b]
  first | refine lv_aload_n hx hb dM_finish_146 rfl (lv_at hl 0 rfl) ?_ | refine lv_aload_nN hx hb dM_finish_146 rfl (lv_at hl 0 rfl) ?_
  refine gM_bound hC hH dM_finish_147 ?_
  refine lv_icmp_le  (tgt := 160) hx hb dM_finish_150 (by decide) (fun h => ?_) (fun h => ?_)
  · have h2 : wMe (gW x i) + rSz (gR x j) ≤ yBo y1 := h
    rw [hbo] at h2
    refine lv_iload_n hx hb dM_finish_160 rfl (lv_at hl 2 rfl) ?_
    exact kk ls H locs _ (if_pos h2).symm (mR.in hRa hH)
  · have h2 : ¬ wMe (gW x i) + rSz (gR x j) ≤ yBo y1 := h
    rw [hbo] at h2
    generalize sMI (sMI (sMI (sMI (sMI y1 12 i (wFi (gW x i) + 1)) 13 i (wMe (gW x i) + rSz (gR x j))) 14 i (-1)) 11 i 0) 17 i (yCl (sMI (sMI (sMI (sMI y1 12 i (wFi (gW x i) + 1)) 13 i (wMe (gW x i) + rSz (gR x j))) 14 i (-1)) 11 i 0)) = y6 at hRb hH
    first | refine lv_aload_n hx hb dM_finish_153 rfl (lv_at hl 0 rfl) ?_ | refine lv_aload_nN hx hb dM_finish_153 rfl (lv_at hl 0 rfl) ?_
    refine lv_iload_n hx hb dM_finish_154 rfl (lv_at hl 1 rfl) ?_
    refine lv_iconst (v := 2) hx hb dM_finish_155 (by decide) ?_
    refine gcWVi hC hl.1 hA hH (fun LL f sz hI => m_ends hI hi60 2) mJ.o rfl rfl kM_137 ⟨by omega, by omega⟩ dM_finish_156 ⟨Nat.zero_le _, Nat.zero_le _⟩ rfl (Nat.le_of_ble_eq_true rfl) (fun r u H locs hp hH => ?_)
    obtain ⟨hp1, hp2⟩ := hp
    subst hp1
    refine lv_istore_n hx hb dM_finish_159 rfl hl (by decide) rfl (fun ls hl => ?_)
    have hl : lv_has ls 4 [(3, _), (0, _), (1, _), (2, _)] := hl
    refine lv_iload_n hx hb dM_finish_160 rfl (lv_at hl 3 rfl) ?_
    exact kk ls H locs _ (if_neg h2).symm (mR.in hRb hH)
set_option maxHeartbeats 600000 in
set_option maxRecDepth 100000 in
theorem m_finish (hI : mR k x LL f) (v : Int32) : Met l yM_finish (wz yM_finish bM_finish 4 (some .int)) (rmL 2 0 0) (gP D (mk_tys k) LL f sz [.ref (mO k), .int v]) (va_Qi (fun (r : Int32) (u : cs_S) => (u, r) = zFin x v) (gB D (mk_tys k) (mR k) (va_A (va_pl LL f) sz)) (va_A (va_pl LL f) sz)) 0 0 (va_A (va_pl LL f) sz) := by
  refine gMet (own := RX4) (u := x) (Qc := fun A => va_Qi (fun (r : Int32) (u : cs_S) => (u, r) = zFin x v) (gB D (mk_tys k) (mR k) A) A) (by decide) rfl hI (Nat.le_of_ble_eq_true rfl) ?_
  intro p e s m below meth c ls A hC hr hlk hnm hA hH hl
  obtain ⟨y, hR, hH⟩ := mR.out hH
  obtain ⟨hnT, hnW, hnR⟩ := hR.n
  have hok := hR.2.1
  have hb6 := hok.1.1
  have hb60 := hok.1.2.1
  have hb100 := hok.1.2.2
  have hx := hC.1
  have hb := hC.2.1
  have hml := hC.2.2.2.2.2
  have hts := hC.2.2.1
  have hown := hC.2.2.2.1
  have hl : lv_has ls 4 [(0, _), (1, _)] := hl
  first | refine lv_aload_n hx hb dM_finish_0 rfl (lv_at hl 0 rfl) ?_ | refine lv_aload_nN hx hb dM_finish_0 rfl (lv_at hl 0 rfl) ?_
  refine lv_iload_n hx hb dM_finish_1 rfl (lv_at hl 1 rfl) ?_
  refine gcVi hC hl.1 hH (fun LL f sz hI => m_isBusy hI v (by omega)) mJ.o rfl rfl kM_131 ⟨Nat.le_of_ble_eq_true rfl, Nat.le_of_ble_eq_true rfl⟩ dM_finish_2 ⟨Nat.le_of_ble_eq_true rfl, Nat.le_of_ble_eq_true rfl⟩ rfl (Nat.le_of_ble_eq_true rfl) (fun r hr1 => ?_)
  rcases hr1 with ⟨i, hi, hv, h11, rfl⟩ | ⟨hv, rfl⟩
  · have hi2 : i < nW x := by rw [← hnW]; exact hi
    have hi3 : i < 60 := by omega
    have hkk : lk (nW x) v = some i := by rw [hv]; exact lk_in hi2 (by omega)
    subst hv
    have q0 := hR.2.2.2.2.1 i hi2
    rw [q0.2.1] at h11
    refine lv_if_ne  (tgt := 10) hx hb dM_finish_5 (by decide) (fun h => ?_) (fun h => ?_)
    · rcases hq : wRq (gW x i) with _ | j
      · exact absurd hq (zSt_1.mp h11).2
      · have hj := (hok.2.1 i hi2).2 j hq
        have hj3 : j < 100 := by omega
        have qr := hR.2.2.2.2.2.1 j hj
        have hx7 := hR.2.2.2.2.2.2.1 i j hi2 hq
        have hti := (hok.2.1 i hi2).1
        have hti6 : wTo (gW x i) < 6 := by omega
        have qt := hR.2.2.2.1 (wTo (gW x i)) hti
        obtain ⟨gv, hgv⟩ : ∃ gv, gv = zGive x i j := ⟨_, rfl⟩
        have hrf := qr.fin hx7.1 (wFi (gW x i) + 1) gv
        have hpost : ∀ x', x' = (if wMe (zFinW x i j) ≤ cBo x then sR (sW x i (wFr_ (zFinW x i j) (cCl x))) j (qDone (rPl_ (gR x j) (wFi (gW x i) + 1)) (some i) gv) else sR (sW x i (wEn_ (zFinW x i j) 2)) j (qDone (rPl_ (gR x j) (wFi (gW x i) + 1)) (some i) gv)) → (x', nI j) = zFin x (nI i) := by
          intro x' hx'
          simp only [zFin, hkk, hq, zFinR]
          rw [hx', ← hgv]
          split <;> rfl
        have hqd : ∀ c : cs_R, rTo (qDone c (some i) gv) = rTo c ∧ (rWk (qDone c (some i) gv) = none ∨ rWk (qDone c (some i) gv) = some i) ∧ rSz (qDone c (some i) gv) = rSz c := fun c => by
          unfold qDone
          split
          · exact ⟨rfl, Or.inl rfl, rfl⟩
          · exact ⟨rfl, Or.inr rfl, rfl⟩
        first | refine lv_aload_n hx hb dM_finish_10 rfl (lv_at hl 0 rfl) ?_ | refine lv_aload_nN hx hb dM_finish_10 rfl (lv_at hl 0 rfl) ?_
        refine gM_busyWith hC hH dM_finish_11 ?_
        refine lv_iload_n hx hb dM_finish_14 rfl (lv_at hl 1 rfl) ?_
        refine aM_i hC hH (by decide) (by assumption) dM_finish_15 ?_
        rw [q0.2.2.2.2.1 j hq]
        refine lv_istore_n hx hb dM_finish_16 rfl hl (by decide) rfl (fun ls hl => ?_)
        have hl : lv_has ls 4 [(2, _), (0, _), (1, _)] := hl
        first | refine lv_aload_n hx hb dM_finish_17 rfl (lv_at hl 1 rfl) ?_ | refine lv_aload_nN hx hb dM_finish_17 rfl (lv_at hl 1 rfl) ?_
        refine gM_isUnwanted hC hH dM_finish_18 ?_
        refine lv_iload_n hx hb dM_finish_21 rfl (lv_at hl 0 rfl) ?_
        refine aM_z hC hH (by decide) (by assumption) dM_finish_22 ?_
        refine lv_if_eq  (tgt := 35) hx hb dM_finish_23 (by decide) (fun h2 => ?_) (fun h2 => ?_)
        · rw [if_pos h2] at hrf
          first | refine lv_aload_n hx hb dM_finish_35 rfl (lv_at hl 1 rfl) ?_ | refine lv_aload_nN hx hb dM_finish_35 rfl (lv_at hl 1 rfl) ?_
          refine lv_iload_n hx hb dM_finish_36 rfl (lv_at hl 0 rfl) ?_
          first | refine lv_aload_n hx hb dM_finish_37 rfl (lv_at hl 1 rfl) ?_ | refine lv_aload_nN hx hb dM_finish_37 rfl (lv_at hl 1 rfl) ?_
          first | refine lv_aload_n hx hb dM_finish_38 rfl (lv_at hl 1 rfl) ?_ | refine lv_aload_nN hx hb dM_finish_38 rfl (lv_at hl 1 rfl) ?_
          refine gM_startedWith hC hH dM_finish_39 ?_
          refine lv_iload_n hx hb dM_finish_42 rfl (lv_at hl 2 rfl) ?_
          refine aM_l hC hH (by decide) (by assumption) dM_finish_43 ?_
          first | refine lv_aload_n hx hb dM_finish_44 rfl (lv_at hl 1 rfl) ?_ | refine lv_aload_nN hx hb dM_finish_44 rfl (lv_at hl 1 rfl) ?_
          refine gM_input hC hH dM_finish_45 ?_
          refine lv_iload_n hx hb dM_finish_48 rfl (lv_at hl 0 rfl) ?_
          refine aM_l hC hH (by decide) (by assumption) dM_finish_49 ?_
          refine gcVl hC hl.1 hH (fun LL f sz hI => m_oneShot hI _ _) mJ.o rfl rfl kM_110 ⟨Nat.le_of_ble_eq_true rfl, Nat.le_of_ble_eq_true rfl⟩ dM_finish_50 ⟨Nat.le_of_ble_eq_true rfl, Nat.le_of_ble_eq_true rfl⟩ rfl (Nat.le_of_ble_eq_true rfl) (fun ov hov => ?_)
          first | refine lv_aload_n hx hb dM_finish_53 rfl (lv_at hl 1 rfl) ?_ | refine lv_aload_nN hx hb dM_finish_53 rfl (lv_at hl 1 rfl) ?_
          refine gM_quirkOf hC hH dM_finish_54 ?_
          first | refine lv_aload_n hx hb dM_finish_57 rfl (lv_at hl 1 rfl) ?_ | refine lv_aload_nN hx hb dM_finish_57 rfl (lv_at hl 1 rfl) ?_
          refine gM_toolOf hC hH dM_finish_58 ?_
          refine lv_iload_n hx hb dM_finish_61 rfl (lv_at hl 2 rfl) ?_
          refine aM_i hC hH (by decide) (by assumption) dM_finish_62 ?_
          rw [q0.1]
          refine aM_i hC hH (by decide) (by assumption) dM_finish_63 ?_
          rw [qt.2.1]
          refine lv_i2l hx hb dM_finish_64 rfl ?_
          first | refine lv_aload_n hx hb dM_finish_65 rfl (lv_at hl 1 rfl) ?_ | refine lv_aload_nN hx hb dM_finish_65 rfl (lv_at hl 1 rfl) ?_
          refine gM_finished hC hH dM_finish_66 ?_
          refine lv_iload_n hx hb dM_finish_69 rfl (lv_at hl 2 rfl) ?_
          refine aM_i hC hH (by decide) (by assumption) dM_finish_70 ?_
          rw [q0.2.2.1]
          refine lv_i2l hx hb dM_finish_71 rfl ?_
          refine lv_lmul hx hb dM_finish_72 ?_
          refine lv_ladd hx hb dM_finish_73 ?_
          refine lv_topl (fun g2 hg2 => ?_)
          have hg3 : g2 = gv := by rw [hg2, hgv, hov, q0.2.2.2.2.2.2.2.2.1, qr.2.2.2.2.2.2.2.2.1]; rfl
          clear hg2
          subst hg3
          refine gcWVv hC hl.1 hA hH (fun LL f sz hI => m_answers hI hj3 g2) mJ.o rfl rfl kM_114 ⟨Nat.le_of_ble_eq_true rfl, Nat.le_of_ble_eq_true rfl⟩ dM_finish_74 ⟨Nat.le_of_ble_eq_true rfl, Nat.le_of_ble_eq_true rfl⟩ rfl (Nat.le_of_ble_eq_true rfl) (fun u H locs hp hH => ?_)
          subst hp
          have e12 : MI (yAns y j g2) 12 i = wFi (gW x i) := (show MI (yAns y j g2) 12 i = MI y 12 i from by simp [yAns, MI_sMI, MI_sML]).trans q0.2.2.1
          first | refine lv_aload_n hx hb dM_finish_77 rfl (lv_at hl 1 rfl) ?_ | refine lv_aload_nN hx hb dM_finish_77 rfl (lv_at hl 1 rfl) ?_
          refine gM_place hC hH dM_finish_78 ?_
          refine lv_iload_n hx hb dM_finish_81 rfl (lv_at hl 0 rfl) ?_
          first | refine lv_aload_n hx hb dM_finish_82 rfl (lv_at hl 1 rfl) ?_ | refine lv_aload_nN hx hb dM_finish_82 rfl (lv_at hl 1 rfl) ?_
          refine gM_finished hC hH dM_finish_83 ?_
          refine lv_iload_n hx hb dM_finish_86 rfl (lv_at hl 2 rfl) ?_
          refine aM_i hC hH (by decide) (by assumption) dM_finish_87 ?_
          rw [e12]
          refine lv_iconst (v := 1) hx hb dM_finish_88 (by decide) ?_
          refine lv_iadd hx hb dM_finish_89 ?_
          refine sM_i hC hH (by decide) (by assumption) dM_finish_90 (fun H locs hH => ?_)
          refine fin_tail (y1 := sMI (yAns y j g2) 23 j (wFi (gW x i) + 1)) hC ⟨Nat.le_of_ble_eq_true rfl, Nat.le_of_ble_eq_true rfl⟩ hA hR hi2 hq ((fr.rf.ans g2).iR 23 _ (by decide)) ((fr.rf.ans g2).iR 23 _ (by decide)) hrf (hqd _).1 (hqd _).2.1 (hqd _).2.2 hH (lv_sub hl [1, 2, 0] rfl) (fun ls H locs x' hx' hH => ?_)
          exact grWi hC hr hlk rfl hH (hpost x' hx') dM_finish_161
        · rw [if_neg h2] at hrf
          first | refine lv_aload_n hx hb dM_finish_26 rfl (lv_at hl 1 rfl) ?_ | refine lv_aload_nN hx hb dM_finish_26 rfl (lv_at hl 1 rfl) ?_
          refine lv_iload_n hx hb dM_finish_27 rfl (lv_at hl 0 rfl) ?_
          refine gcWVi hC hl.1 hA hH (fun LL f sz hI => m_lets hI hj3) mJ.o rfl rfl kM_103 ⟨Nat.le_of_ble_eq_true rfl, Nat.le_of_ble_eq_true rfl⟩ dM_finish_28 ⟨Nat.le_of_ble_eq_true rfl, Nat.le_of_ble_eq_true rfl⟩ rfl (Nat.le_of_ble_eq_true rfl) (fun r2 u H locs hp hH => ?_)
          obtain ⟨hp1, hp2⟩ := hp
          subst hp1
          refine lv_istore_n hx hb dM_finish_31 rfl hl (by decide) rfl (fun ls hl => ?_)
          have hl : lv_has ls 4 [(3, _), (2, _), (0, _), (1, _)] := hl
          refine lv_goto (tgt := 91) hx hb dM_finish_32 (by decide) ?_
          refine fin_tail (y1 := yLet y j) hC ⟨Nat.le_of_ble_eq_true rfl, Nat.le_of_ble_eq_true rfl⟩ hA hR hi2 hq fr.rf.let fr.rf.let hrf (hqd _).1 (hqd _).2.1 (hqd _).2.2 hH (lv_sub hl [2, 3, 1] rfl) (fun ls H locs x' hx' hH => ?_)
          exact grWi hC hr hlk rfl hH (hpost x' hx') dM_finish_161
    · exact absurd h (by decide)
  · refine lv_if_ne  (tgt := 10) hx hb dM_finish_5 (by decide) (fun h => ?_) (fun h => ?_)
    · exact absurd rfl h
    · refine lv_iconst (v := -1) hx hb dM_finish_8 (by decide) ?_
      have hno : (x, (-1 : Int32)) = zFin x v := by
        unfold zFin
        rcases hkk : lk (nW x) v with _ | i
        · rfl
        · obtain ⟨hi, hv2⟩ := lk_some hkk (by omega)
          have h11 := hv i (by omega) hv2
          rw [(hR.2.2.2.2.1 i hi).2.1] at h11
          rcases hq : wRq (gW x i) with _ | j
          · simp only [hq]
          · exact absurd (zSt_1.mpr ⟨Classical.byContradiction (fun z => by have := (hR.2.2.2.2.1 i hi).2.2.2.2.2.2.2.2.2 z; rw [hq] at this; cases this), by rw [hq]; simp⟩) h11
      exact grWi hC hr hlk rfl (mR.in hR hH) hno dM_finish_9
end M6
end
section
section M7
theorem oI_some {o : Option Nat} {i : Nat} (hi : i < 100) (h : ∀ b, o = some b → b < 100) : oI o = nI i ↔ o = some i := by
  cases o with
  | none => exact ⟨fun q => absurd q (fun q => nI_pos (n := i) (by omega) (by rw [← show (-1 : Int32) = nI i from q]; decide)), fun q => by cases q⟩
  | some b =>
    have := h b rfl
    exact ⟨fun q => by rw [(nI_eq (by omega) (by omega)).mp (show nI b = nI i from q)], fun q => by cases q; rfl⟩
theorem zRdF_100 (x : cs_S) (j i : Nat) : ∀ m, zRdF x j i (nR x + m) = zRdF x j i (nR x)
  | 0 => rfl
  | m + 1 => by
    rw [← zRdF_100 x j i m]
    exact if_neg (fun q => absurd q.1 (by rw [(zRdF_n x j i _).2.2]; exact Nat.not_lt.mpr (Nat.le_add_right _ _)))
theorem Rel.redo {x : cs_S} {y : ms_S} {a : Nat} (h : Rel x y) (ha : a < nR x) (hs : rSt (gR x a) = 2) (ov : Int64) : Rel (sR x a (rRe_ (rWk_ (rRs_ (gR x a) ov) none) true)) (sMI (sMI (sML y 28 a ov) 22 a (-1)) 26 a 1) := by
  obtain ⟨q1, q2, q3, q4, q5, q6, q7, q8, q9, q10, q11⟩ := h.2.2.2.2.2.1 a ha
  exact h.upR ha (((fr.rf.lR 28 ov (by decide)).iR 22 _ (by decide)).iR 26 _ (by decide)) ⟨(show MI (sMI (sMI (sML y 28 a ov) 22 a (-1)) 26 a 1) 19 a = MI y 19 a from by simp [MI_sMI, ML_sML, MI_sML, ML_sMI]).trans q1, (show MI (sMI (sMI (sML y 28 a ov) 22 a (-1)) 26 a 1) 20 a = MI y 20 a from by simp [MI_sMI, ML_sML, MI_sML, ML_sMI]).trans q2, (show MI (sMI (sMI (sML y 28 a ov) 22 a (-1)) 26 a 1) 21 a = MI y 21 a from by simp [MI_sMI, ML_sML, MI_sML, ML_sMI]).trans q3, by simp [MI_sMI]; rfl, fun _ z => absurd rfl z, (show MI (sMI (sMI (sML y 28 a ov) 22 a (-1)) 26 a 1) 24 a = MI y 24 a from by simp [MI_sMI, ML_sML, MI_sML, ML_sMI]).trans q6, (show MI (sMI (sMI (sML y 28 a ov) 22 a (-1)) 26 a 1) 25 a = MI y 25 a from by simp [MI_sMI, ML_sML, MI_sML, ML_sMI]).trans q7, by simp [MI_sMI]; rfl, (show ML (sMI (sMI (sML y 28 a ov) 22 a (-1)) 26 a 1) 27 a = ML y 27 a from by simp [MI_sMI, ML_sML, MI_sML, ML_sMI]).trans q9, by simp [ML_sMI, ML_sML], fun z => absurd (hs.symm.trans z) (by decide)⟩ ⟨(h.2.1.2.2 a ha).1, fun b z => by cases z⟩ (Or.inr (h.noW (by rw [hs]; decide)))
theorem Rel.bar1 {x : cs_S} {y : ms_S} {i : Nat} (h : Rel x y) (hi : i < nW x) : Rel (zBar x i) (sMI y 9 (wTo (gW x i)) (tBa (gT x (wTo (gW x i))) + 1)) := by
  have ht := (h.2.1.2.1 i hi).1
  have q := h.2.2.2.1 _ ht
  exact h.upT (y' := sMI y 9 (wTo (gW x i)) (tBa (gT x (wTo (gW x i))) + 1)) ht ⟨rfl, rfl, rfl⟩ (fun a b hab => ⟨by rw [MI_sMI, if_neg (by omega)], rfl⟩) ⟨q.1, (show MI (sMI y 9 (wTo (gW x i)) (tBa (gT x (wTo (gW x i))) + 1)) 8 (wTo (gW x i)) = MI y 8 (wTo (gW x i)) from by simp [MI_sMI]).trans q.2.1, by simp [MI_sMI]⟩
theorem Rel.tru {x : cs_S} {y : ms_S} {i : Nat} (h : Rel x y) (hi : i < nW x) (v : Int32) : Rel (sW x i (wTr_ (gW x i) v)) (sMI y 16 i v) := by
  obtain ⟨q1, q2, q3, q4, q5, q6, q7, q8, q9, q10⟩ := h.2.2.2.2.1 i hi
  exact h.upW hi (fr.rf.iW 16 v (by decide)) ⟨(show MI (sMI y 16 i v) 10 i = MI y 10 i from by simp [MI_sMI, ML_sML, MI_sML, ML_sMI]).trans q1, (show MI (sMI y 16 i v) 11 i = MI y 11 i from by simp [MI_sMI, ML_sML, MI_sML, ML_sMI]).trans q2, (show MI (sMI y 16 i v) 12 i = MI y 12 i from by simp [MI_sMI, ML_sML, MI_sML, ML_sMI]).trans q3, (show MI (sMI y 16 i v) 13 i = MI y 13 i from by simp [MI_sMI, ML_sML, MI_sML, ML_sMI]).trans q4, fun a z => (show MI (sMI y 16 i v) 14 i = MI y 14 i from by simp [MI_sMI, ML_sML, MI_sML, ML_sMI]).trans (q5 a z), (show MI (sMI y 16 i v) 15 i = MI y 15 i from by simp [MI_sMI, ML_sML, MI_sML, ML_sMI]).trans q6, by simp [MI_sMI], fun z => (show MI (sMI y 16 i v) 17 i = MI y 17 i from by simp [MI_sMI, ML_sML, MI_sML, ML_sMI]).trans (q8 z), (show ML (sMI y 16 i v) 18 i = ML y 18 i from by simp [MI_sMI, ML_sML, MI_sML, ML_sMI]).trans q9, q10⟩ (h.2.1.2.1 i hi).1 (fun a z => z)
variable {l : Launch} {D : va_G} {k : mk_F} {x : cs_S} {LL : List Nat} {f : Nat → va_E} {sz : Nat}
set_option maxHeartbeats 600000 in
set_option maxRecDepth 100000 in
theorem sam_tail {p : Program} {e : Env} {R : Room} {s : State} {m : MethodId} {args : Array Value} {below : List Frame} {meth : Method} {c : Code} {H : Heap} {locs : List Loc} {Q : State → Prop} {ls : Array Slot} {A : Nat → Prop} {i : Nat} {w : Int32} (hC : mX D k p s m args c bM_sample 6) (hRR : 3 ≤ R.frames ∧ 102 ≤ R.locals) (hA : ∀ q : Nat, s.heap.size ≤ q → A q) (hi : i < nW x) (hG : gH D (mR k) x A s.heap H locs) (hl : lv_has ls 6 [(0, .ref (mO k)), (2, .int (nI i)), (3, .int w)]) (kk : ∀ (ls : Array Slot) (H1 : Heap) (locs1 : List Loc) (x' : cs_S), x' = zBar (if wEn (gW x i) = 0 then zEndRe x i 5 else x) i → gH D (mR k) x' A s.heap H1 locs1 → W p l e R s m args below meth c H1 locs1 0 0 Q (F0 m 261 ls [.int w])) : W p l e R s m args below meth c H locs 0 0 Q (F0 m 199 ls []) := by
  have bars : ∀ (x' : cs_S) (ls : Array Slot) (H : Heap) (locs : List Loc), i < nW x' → x' = (if wEn (gW x i) = 0 then zEndRe x i 5 else x) → gH D (mR k) x' A s.heap H locs → lv_has ls 6 [(0, .ref (mO k)), (2, .int (nI i)), (3, .int w)] → W p l e R s m args below meth c H locs 0 0 Q (F0 m 245 ls []) := by
    intro x' ls H locs hi2 hx' hG hl
    obtain ⟨y, hR, hH⟩ := mR.out hG
    have hi60 : i < 60 := Nat.lt_of_lt_of_le hi2 hR.2.1.1.2.1
    have ht := (hR.2.1.2.1 i hi2).1
    have ht6 : wTo (gW x' i) < 6 := Nat.lt_of_lt_of_le ht hR.2.1.1.1
    have hR2 := hR.bar1 hi2
    have hx := hC.1
    have hb := hC.2.1
    have hml := hC.2.2.2.2.2
    have hts := hC.2.2.1
    have hown := hC.2.2.2.1
    have hl : lv_has ls 6 [(0, _), (2, _), (3, _)] := hl
    first | refine lv_aload_n hx hb dM_sample_245 rfl (lv_at hl 0 rfl) ?_ | refine lv_aload_nN hx hb dM_sample_245 rfl (lv_at hl 0 rfl) ?_
    refine gM_barsOf hC hH dM_sample_246 ?_
    first | refine lv_aload_n hx hb dM_sample_249 rfl (lv_at hl 0 rfl) ?_ | refine lv_aload_nN hx hb dM_sample_249 rfl (lv_at hl 0 rfl) ?_
    refine gM_toolOf hC hH dM_sample_250 ?_
    refine lv_iload_n hx hb dM_sample_253 rfl (lv_at hl 1 rfl) ?_
    refine aM_i hC hH (by decide) (by assumption) dM_sample_254 ?_
    rw [(hR.2.2.2.2.1 i hi2).1]
    refine lv_dup2_11 hx hb dM_sample_255 rfl rfl ?_
    refine aM_i hC hH (by decide) (by assumption) dM_sample_256 ?_
    rw [(hR.2.2.2.1 _ ht).2.2]
    refine lv_iconst (v := 1) hx hb dM_sample_257 (by decide) ?_
    refine lv_iadd hx hb dM_sample_258 ?_
    refine sM_i hC hH (by decide) (by assumption) dM_sample_259 (fun H locs hH => ?_)
    refine lv_iload_n hx hb dM_sample_260 rfl (lv_at hl 2 rfl) ?_
    exact kk ls H locs _ (by rw [hx']) (mR.in hR2 hH)
  obtain ⟨y, hR, hH⟩ := mR.out hG
  have hok := hR.2.1
  have hi60 : i < 60 := Nat.lt_of_lt_of_le hi hok.1.2.1
  have q0 := hR.2.2.2.2.1 i hi
  have hx := hC.1
  have hb := hC.2.1
  have hml := hC.2.2.2.2.2
  have hts := hC.2.2.1
  have hown := hC.2.2.2.1
  have hl : lv_has ls 6 [(0, _), (2, _), (3, _)] := hl
  first | refine lv_aload_n hx hb dM_sample_199 rfl (lv_at hl 0 rfl) ?_ | refine lv_aload_nN hx hb dM_sample_199 rfl (lv_at hl 0 rfl) ?_
  refine gM_state hC hH dM_sample_200 ?_
  refine lv_iload_n hx hb dM_sample_203 rfl (lv_at hl 1 rfl) ?_
  refine aM_i hC hH (by decide) (by assumption) dM_sample_204 ?_
  refine lv_iconst (v := 2) hx hb dM_sample_205 (by decide) ?_
  rw [q0.2.1]
  refine lv_icmp_eq  (tgt := 245) hx hb dM_sample_206 (by decide) (fun h2 => ?_) (fun h2 => ?_)
  · exact bars x ls H locs hi (if_neg (zSt_2.mp h2)).symm hG (lv_sub hl [0, 1, 2] rfl)
  · have h0 : wEn (gW x i) = 0 := Classical.byContradiction (fun z => h2 (zSt_2.mpr z))
    have hi5 : i < nW (zEndRe x i 5) := by rw [(nW_zEndRe _ _ _).1]; exact hi
    first | refine lv_aload_n hx hb dM_sample_209 rfl (lv_at hl 0 rfl) ?_ | refine lv_aload_nN hx hb dM_sample_209 rfl (lv_at hl 0 rfl) ?_
    refine gM_state hC hH dM_sample_210 ?_
    refine lv_iload_n hx hb dM_sample_213 rfl (lv_at hl 1 rfl) ?_
    refine aM_i hC hH (by decide) (by assumption) dM_sample_214 ?_
    refine lv_iconst (v := 1) hx hb dM_sample_215 (by decide) ?_
    rw [q0.2.1]
    refine lv_icmp_ne  (tgt := 223) hx hb dM_sample_216 (by decide) (fun h3 => ?_) (fun h3 => ?_)
    · have hq : wRq (gW x i) = none := Classical.byContradiction (fun z => h3 (zSt_1.mpr ⟨h0, z⟩))
      have hR3 := (hR.endRe0 hi (r := 5) (by decide) hq).2
      refine lv_iconst (v := 0) hx hb dM_sample_223 (by decide) ?_
      refine lv_istore hx hb dM_sample_224 hl (by decide) rfl (fun ls hl => ?_)
      have hl : lv_has ls 6 [(4, _), (0, _), (2, _), (3, _)] := hl
      first | refine lv_aload_n hx hb dM_sample_226 rfl (lv_at hl 1 rfl) ?_ | refine lv_aload_nN hx hb dM_sample_226 rfl (lv_at hl 1 rfl) ?_
      refine lv_iload_n hx hb dM_sample_227 rfl (lv_at hl 2 rfl) ?_
      refine lv_iconst (v := 5) hx hb dM_sample_228 (by decide) ?_
      refine gcWVi hC hl.1 hA hH (fun LL f sz hI => m_ends hI hi60 5) mJ.o rfl rfl kM_137 ⟨by omega, by omega⟩ dM_sample_229 ⟨Nat.zero_le _, Nat.zero_le _⟩ rfl (Nat.le_of_ble_eq_true rfl) (fun r u H locs hp hH => ?_)
      obtain ⟨hp1, hp2⟩ := hp
      subst hp1
      refine lv_istore hx hb dM_sample_232 hl (by decide) rfl (fun ls hl => ?_)
      have hl : lv_has ls 6 [(5, _), (4, _), (0, _), (2, _), (3, _)] := hl
      refine lv_iload hx hb dM_sample_234 (lv_at hl 1 rfl) ?_
      refine lv_if_eq  (tgt := 245) hx hb dM_sample_236 (by decide) (fun h4 => ?_) (fun h4 => ?_)
      · exact bars _ ls H locs hi5 (if_pos h0).symm (mR.in hR3 hH) (lv_sub hl [2, 3, 4] rfl)
      · exact absurd rfl h4
    · rcases hq : wRq (gW x i) with _ | j
      · exact absurd hq (zSt_1.mp h3).2
      · have hj := (hok.2.1 i hi).2 j hq
        have hj3 : j < 100 := Nat.lt_of_lt_of_le hj hok.1.2.2
        have hR3 := hR.endRe1 hi (r := 5) (by decide) hq
        refine lv_iconst (v := 1) hx hb dM_sample_219 (by decide) ?_
        refine lv_goto (tgt := 224) hx hb dM_sample_220 (by decide) ?_
        refine lv_istore hx hb dM_sample_224 hl (by decide) rfl (fun ls hl => ?_)
        have hl : lv_has ls 6 [(4, _), (0, _), (2, _), (3, _)] := hl
        first | refine lv_aload_n hx hb dM_sample_226 rfl (lv_at hl 1 rfl) ?_ | refine lv_aload_nN hx hb dM_sample_226 rfl (lv_at hl 1 rfl) ?_
        refine lv_iload_n hx hb dM_sample_227 rfl (lv_at hl 2 rfl) ?_
        refine lv_iconst (v := 5) hx hb dM_sample_228 (by decide) ?_
        refine gcWVi hC hl.1 hA hH (fun LL f sz hI => m_ends hI hi60 5) mJ.o rfl rfl kM_137 ⟨by omega, by omega⟩ dM_sample_229 ⟨Nat.zero_le _, Nat.zero_le _⟩ rfl (Nat.le_of_ble_eq_true rfl) (fun r u H locs hp hH => ?_)
        obtain ⟨hp1, hp2⟩ := hp
        subst hp1
        obtain rfl : r = nI j := by rw [hp2]; exact q0.2.2.2.2.1 j hq
        refine lv_istore hx hb dM_sample_232 hl (by decide) rfl (fun ls hl => ?_)
        have hl : lv_has ls 6 [(5, _), (4, _), (0, _), (2, _), (3, _)] := hl
        refine lv_iload hx hb dM_sample_234 (lv_at hl 1 rfl) ?_
        refine lv_if_eq  (tgt := 245) hx hb dM_sample_236 (by decide) (fun h4 => ?_) (fun h4 => ?_)
        · exact absurd h4 (by decide)
        · first | refine lv_aload_n hx hb dM_sample_239 rfl (lv_at hl 2 rfl) ?_ | refine lv_aload_nN hx hb dM_sample_239 rfl (lv_at hl 2 rfl) ?_
          refine lv_iload hx hb dM_sample_240 (lv_at hl 0 rfl) ?_
          refine gcWVv hC hl.1 hA hH (fun LL f sz hI => m_waitsAgain hI hj3) mJ.o rfl rfl kM_141 ⟨by omega, by omega⟩ dM_sample_242 ⟨Nat.zero_le _, Nat.zero_le _⟩ rfl (Nat.le_of_ble_eq_true rfl) (fun u H locs hp hH => ?_)
          subst hp
          exact bars _ ls H locs hi5 (if_pos h0).symm (mR.in hR3 hH) (lv_sub hl [2, 3, 4] rfl)
set_option maxHeartbeats 600000 in
set_option maxRecDepth 100000 in
theorem m_sample (hI : mR k x LL f) (v : Int32) : Met l yM_sample (wz yM_sample bM_sample 6 (some .int)) (rmL 3 0 0) (gP D (mk_tys k) LL f sz [.ref (mO k), .int v]) (va_Qi (fun (r : Int32) (u : cs_S) => (u, r) = zSam x v) (gB D (mk_tys k) (mR k) (va_A (va_pl LL f) sz)) (va_A (va_pl LL f) sz)) 0 0 (va_A (va_pl LL f) sz) := by
  refine gMet (own := RX4) (u := x) (Qc := fun A => va_Qi (fun (r : Int32) (u : cs_S) => (u, r) = zSam x v) (gB D (mk_tys k) (mR k) A) A) (by decide) rfl hI (Nat.le_of_ble_eq_true rfl) ?_
  intro p e s m below meth c ls A hC hr hlk hnm hA hH hl
  obtain ⟨y, hR, hH⟩ := mR.out hH
  obtain ⟨hnT, hnW, hnR⟩ := hR.n
  have hok := hR.2.1
  have hb6 := hok.1.1
  have hb60 := hok.1.2.1
  have hb100 := hok.1.2.2
  have hx := hC.1
  have hb := hC.2.1
  have hml := hC.2.2.2.2.2
  have hts := hC.2.2.1
  have hown := hC.2.2.2.1
  have hl : lv_has ls 6 [(0, _), (1, _)] := hl
  refine lv_iload_n hx hb dM_sample_0 rfl (lv_at hl 1 rfl) ?_
  first | refine lv_aload_n hx hb dM_sample_1 rfl (lv_at hl 0 rfl) ?_ | refine lv_aload_nN hx hb dM_sample_1 rfl (lv_at hl 0 rfl) ?_
  refine gM_requests hC hH dM_sample_2 ?_
  refine gcTi hC.fix hl.1 (m_in v (yR y) (by omega)) kM_96 ⟨Nat.le_of_ble_eq_true rfl, Nat.le_of_ble_eq_true rfl⟩ dM_sample_5 ⟨Nat.le_of_ble_eq_true rfl, Nat.le_of_ble_eq_true rfl⟩ rfl (Nat.le_of_ble_eq_true rfl) (fun r hr1 => ?_)
  rcases hr1 with ⟨j, hj, hv, rfl⟩ | ⟨hv, rfl⟩
  · have hj2 : j < nR x := by rw [← hnR]; exact hj
    have hj3 : j < 100 := by omega
    have hkk : lk (nR x) v = some j := by rw [hv]; exact lk_in hj2 (by omega)
    subst hv
    have qr := hR.2.2.2.2.2.1 j hj2
    have okj := hok.2.2 j hj2
    refine lv_if_eq  (tgt := 31) hx hb dM_sample_8 (by decide) (fun h => ?_) (fun h => ?_)
    · exact absurd h (by decide)
    · first | refine lv_aload_n hx hb dM_sample_11 rfl (lv_at hl 0 rfl) ?_ | refine lv_aload_nN hx hb dM_sample_11 rfl (lv_at hl 0 rfl) ?_
      refine gM_kind hC hH dM_sample_12 ?_
      refine lv_iload_n hx hb dM_sample_15 rfl (lv_at hl 1 rfl) ?_
      refine aM_i hC hH (by decide) (by assumption) dM_sample_16 ?_
      refine lv_iconst (v := 2) hx hb dM_sample_17 (by decide) ?_
      rw [qr.2.2.1]
      refine lv_icmp_ne  (tgt := 31) hx hb dM_sample_18 (by decide) (fun h1 => ?_) (fun h1 => ?_)
      · refine lv_iconst (v := -1) hx hb dM_sample_31 (by decide) ?_
        exact grWi hC hr hlk rfl (mR.in hR hH) (by simp only [zSam, hkk]; rw [if_neg h1]) dM_sample_32
      · first | refine lv_aload_n hx hb dM_sample_21 rfl (lv_at hl 0 rfl) ?_ | refine lv_aload_nN hx hb dM_sample_21 rfl (lv_at hl 0 rfl) ?_
        refine gM_by hC hH dM_sample_22 ?_
        refine lv_iload_n hx hb dM_sample_25 rfl (lv_at hl 1 rfl) ?_
        refine aM_i hC hH (by decide) (by assumption) dM_sample_26 ?_
        refine lv_iconst (v := -1) hx hb dM_sample_27 (by decide) ?_
        rw [qr.2.2.2.1]
        refine lv_icmp_ne  (tgt := 33) hx hb dM_sample_28 (by decide) (fun h2 => ?_) (fun h2 => ?_)
        · rcases hq : rWk (gR x j) with _ | i
          · exact absurd (by rw [hq]; rfl) h2
          · have hi := okj.2 i hq
            have hi60 : i < 60 := by omega
            have qw := hR.2.2.2.2.1 i hi
            obtain ⟨ov, hov⟩ : ∃ ov, ov = os (wEd (gW x i)) (rIn (gR x j)) := ⟨_, rfl⟩
            first | refine lv_aload_n hx hb dM_sample_33 rfl (lv_at hl 0 rfl) ?_ | refine lv_aload_nN hx hb dM_sample_33 rfl (lv_at hl 0 rfl) ?_
            refine gM_by hC hH dM_sample_34 ?_
            refine lv_iload_n hx hb dM_sample_37 rfl (lv_at hl 1 rfl) ?_
            refine aM_i hC hH (by decide) (by assumption) dM_sample_38 ?_
            rw [qr.2.2.2.1, hq]
            refine W.eq (g2 := F0 m 39 ls [.int (nI i)]) rfl ?_
            refine lv_istore_n hx hb dM_sample_39 rfl hl (by decide) rfl (fun ls hl => ?_)
            have hl : lv_has ls 6 [(2, _), (0, _), (1, _)] := hl
            first | refine lv_aload_n hx hb dM_sample_40 rfl (lv_at hl 1 rfl) ?_ | refine lv_aload_nN hx hb dM_sample_40 rfl (lv_at hl 1 rfl) ?_
            refine gM_gave hC hH dM_sample_41 ?_
            refine lv_iload_n hx hb dM_sample_44 rfl (lv_at hl 2 rfl) ?_
            refine aM_l hC hH (by decide) (by assumption) dM_sample_45 ?_
            rw [qr.2.2.2.2.2.2.2.2.2.1]
            first | refine lv_aload_n hx hb dM_sample_46 rfl (lv_at hl 1 rfl) ?_ | refine lv_aload_nN hx hb dM_sample_46 rfl (lv_at hl 1 rfl) ?_
            first | refine lv_aload_n hx hb dM_sample_47 rfl (lv_at hl 1 rfl) ?_ | refine lv_aload_nN hx hb dM_sample_47 rfl (lv_at hl 1 rfl) ?_
            refine gM_startedWith hC hH dM_sample_48 ?_
            refine lv_iload_n hx hb dM_sample_51 rfl (lv_at hl 0 rfl) ?_
            refine aM_l hC hH (by decide) (by assumption) dM_sample_52 ?_
            first | refine lv_aload_n hx hb dM_sample_53 rfl (lv_at hl 1 rfl) ?_ | refine lv_aload_nN hx hb dM_sample_53 rfl (lv_at hl 1 rfl) ?_
            refine gM_input hC hH dM_sample_54 ?_
            refine lv_iload_n hx hb dM_sample_57 rfl (lv_at hl 2 rfl) ?_
            refine aM_l hC hH (by decide) (by assumption) dM_sample_58 ?_
            refine gcVl hC hl.1 hH (fun LL f sz hI => m_oneShot hI _ _) mJ.o rfl rfl kM_110 ⟨Nat.le_of_ble_eq_true rfl, Nat.le_of_ble_eq_true rfl⟩ dM_sample_59 ⟨Nat.le_of_ble_eq_true rfl, Nat.le_of_ble_eq_true rfl⟩ rfl (Nat.le_of_ble_eq_true rfl) (fun ov2 hov2 => ?_)
            have hov3 : ov2 = ov := by rw [hov2, hov, qw.2.2.2.2.2.2.2.2.1, qr.2.2.2.2.2.2.2.2.1]
            clear hov2
            subst hov3
            refine W.lcmp hx hb dM_sample_62 ?_
            refine lv_if_ne  (tgt := 104) hx hb dM_sample_63 (by decide) (fun h3 => ?_) (fun h3 => ?_)
            · have h4 : ¬ rRs (gR x j) = ov2 := fun z => h3 ((lg_cmp_eq _ _).mpr z)
              refine lv_iconst (v := 0) hx hb dM_sample_104 (by decide) ?_
              refine lv_istore_n hx hb dM_sample_105 rfl hl (by decide) rfl (fun ls hl => ?_)
              have hl : lv_has ls 6 [(3, _), (2, _), (0, _), (1, _)] := hl
              refine lv_iconst (v := 0) hx hb dM_sample_106 (by decide) ?_
              refine lv_istore hx hb dM_sample_107 hl (by decide) rfl (fun ls hl => ?_)
              have hl : lv_has ls 6 [(4, _), (3, _), (2, _), (0, _), (1, _)] := hl
              have hG := mR.in hR hH
              refine (?_ : ∀ (n a : Nat) (w : Int32) (ls : Array Slot) (H : Heap) (locs : List Loc), a + n = nR x → w = (zRdF x j i a).2 → gH D (mR k) (zRdF x j i a).1 A s.heap H locs → lv_has ls 6 [(0, .ref (mO k)), (1, .int (nI j)), (2, .int (nI i)), (3, .int w), (4, .int (nI a))] → W p l e _ s m _ below meth c H locs 0 0 _ (F0 m 109 ls [])) (nR x) 0 0 ls _ _ (Nat.zero_add _) rfl hG (lv_sub hl [3, 4, 2, 1, 0] rfl)
              intro n
              induction n with
              | zero =>
                intro a w ls H locs hin hw hG hl
                obtain ⟨y, hR, hH⟩ := mR.out hG
                have hnR := hR.n.2.2
                rw [(zRdF_n x j i a).2.2] at hnR
                refine lv_iload hx hb dM_sample_109 (lv_at hl 4 rfl) ?_
                first | refine lv_aload_n hx hb dM_sample_111 rfl (lv_at hl 0 rfl) ?_ | refine lv_aload_nN hx hb dM_sample_111 rfl (lv_at hl 0 rfl) ?_
                refine gM_requests hC hH dM_sample_112 ?_
                refine lv_icmp_ge  (tgt := 199) hx hb dM_sample_115 (by decide) (fun h9 => ?_) (fun h9 => ?_)
                · obtain rfl : a = nR x := by omega
                  have e := zRdF_100 x j i (100 - nR x)
                  rw [show nR x + (100 - nR x) = 100 by omega] at e
                  have hzn := (zRdF_n x j i (nR x)).1
                  generalize hz : zRdF x j i (nR x) = z at e hw hG hzn
                  refine sam_tail hC ⟨Nat.le_of_ble_eq_true rfl, Nat.le_of_ble_eq_true rfl⟩ hA (by rw [hzn]; exact hi) hG (lv_sub hl [0, 2, 3] rfl) (fun ls H locs x' hx' hG => ?_)
                  exact grWi hC hr hlk rfl hG (by simp only [zSam, hkk, hq]; rw [if_pos h1, ← hov, if_neg h4, e, hx', hw]) dM_sample_261
                · exact absurd (by rw [hnR]; exact nI_le (by omega) (by omega)) h9
              | succ n ih =>
                intro a w ls H locs hin hw hG hl
                obtain ⟨y, hR, hH⟩ := mR.out hG
                have hnR := hR.n.2.2
                rw [(zRdF_n x j i a).2.2] at hnR
                have ha2 : a < nR (zRdF x j i a).1 := by rw [(zRdF_n x j i a).2.2]; omega
                have ha3 : a < 100 := by omega
                have hi9 : i < nW (zRdF x j i a).1 := by rw [(zRdF_n x j i a).1]; exact hi
                have q1 := hR.2.2.2.2.2.1 a ha2
                have q2 := hR.2.2.2.2.1 i hi9
                have hoa := oI_some (o := rWk (gR (zRdF x j i a).1 a)) (i := i) (by omega) (fun b hb => by have := (hR.2.1.2.2 a ha2).2 b hb; have := hR.2.1.1.2.1; omega)
                refine lv_iload hx hb dM_sample_109 (lv_at hl 4 rfl) ?_
                first | refine lv_aload_n hx hb dM_sample_111 rfl (lv_at hl 0 rfl) ?_ | refine lv_aload_nN hx hb dM_sample_111 rfl (lv_at hl 0 rfl) ?_
                refine gM_requests hC hH dM_sample_112 ?_
                refine lv_icmp_ge  (tgt := 199) hx hb dM_sample_115 (by decide) (fun h9 => ?_) (fun h9 => ?_)
                · exact absurd h9 (by rw [hnR]; exact nI_ge (by omega) (by omega))
                · first | refine lv_aload_n hx hb dM_sample_118 rfl (lv_at hl 0 rfl) ?_ | refine lv_aload_nN hx hb dM_sample_118 rfl (lv_at hl 0 rfl) ?_
                  refine lv_iload hx hb dM_sample_119 (lv_at hl 4 rfl) ?_
                  refine lv_iload_n hx hb dM_sample_121 rfl (lv_at hl 2 rfl) ?_
                  refine gcVi hC hl.1 hH (fun LL f sz hI => m_isDoneBy hI ha3 (nI i)) mJ.o rfl rfl kM_146 ⟨Nat.le_of_ble_eq_true rfl, Nat.le_of_ble_eq_true rfl⟩ dM_sample_122 ⟨Nat.le_of_ble_eq_true rfl, Nat.le_of_ble_eq_true rfl⟩ rfl (Nat.le_of_ble_eq_true rfl) (fun r hr1 => ?_)
                  rw [q1.2.2.1, q1.2.2.2.1] at hr1
                  refine lv_if_eq  (tgt := 193) hx hb dM_sample_125 (by decide) (fun h5 => ?_) (fun h5 => ?_)
                  · refine lv_iinc hx hb dM_sample_193 hl (k := 4) rfl rfl (by decide) rfl (fun ls hl => ?_)
                    have hl : lv_has ls 6 [(4, _), (0, _), (1, _), (2, _), (3, _)] := hl
                    refine lv_goto (tgt := 109) hx hb dM_sample_196 (by decide) ?_
                    have hs : zRdF x j i (a + 1) = zRdF x j i a := if_neg (fun q => by rw [hr1, if_pos ⟨q.2.1, hoa.mpr q.2.2.1⟩] at h5; exact absurd h5 (by decide))
                    exact ih (a + 1) w ls H locs (by omega) (by rw [hs]; exact hw) (by rw [hs]; exact hG) (by rw [← nI_1 a]; exact lv_sub hl [1, 2, 3, 4, 0] rfl)
                  · have h6 : rSt (gR (zRdF x j i a).1 a) = 2 ∧ rWk (gR (zRdF x j i a).1 a) = some i := Classical.byContradiction (fun q => h5 (by rw [hr1, if_neg (fun z => q ⟨z.1, hoa.mp z.2⟩)]))
                    obtain ⟨ow, how⟩ : ∃ ow, ow = os (wEd (gW (zRdF x j i a).1 i)) (rIn (gR (zRdF x j i a).1 a)) := ⟨_, rfl⟩
                    have hR3 := hR.redo ha2 h6.1 ow
                    have hgo : (a = j ∨ ¬ rPl (gR (zRdF x j i a).1 a) ≤ wTr (gW (zRdF x j i a).1 i)) → ∀ (ls : Array Slot), lv_has ls 6 [(0, .ref (mO k)), (1, .int (nI j)), (2, .int (nI i)), (3, .int w), (4, .int (nI a))] → W p l e (rmL 3 0 0) s m ([.ref (mO k), .int (nI j)] : List Value).toArray below meth c H locs 0 0 (MQ below (va_Qi (fun (r : Int32) (u : cs_S) => (u, r) = zSam x (nI j)) (gB D (mk_tys k) (mR k) A) A) ([.ref (mO k), .int (nI j)] : List Value).toArray s 0 0 A) (F0 m 150 ls []) := by
                      intro hor ls hl
                      have hs : zRdF x j i (a + 1) = (sR (zRdF x j i a).1 a (rRe_ (rWk_ (rRs_ (gR (zRdF x j i a).1 a) ow) none) true), (zRdF x j i a).2 + 1) := by
                        rw [how]
                        exact if_pos ⟨ha2, h6.1, h6.2, hor⟩
                      first | refine lv_aload_n hx hb dM_sample_150 rfl (lv_at hl 0 rfl) ?_ | refine lv_aload_nN hx hb dM_sample_150 rfl (lv_at hl 0 rfl) ?_
                      refine gM_gave hC hH dM_sample_151 ?_
                      refine lv_iload hx hb dM_sample_154 (lv_at hl 4 rfl) ?_
                      first | refine lv_aload_n hx hb dM_sample_156 rfl (lv_at hl 0 rfl) ?_ | refine lv_aload_nN hx hb dM_sample_156 rfl (lv_at hl 0 rfl) ?_
                      first | refine lv_aload_n hx hb dM_sample_157 rfl (lv_at hl 0 rfl) ?_ | refine lv_aload_nN hx hb dM_sample_157 rfl (lv_at hl 0 rfl) ?_
                      refine gM_startedWith hC hH dM_sample_158 ?_
                      refine lv_iload_n hx hb dM_sample_161 rfl (lv_at hl 2 rfl) ?_
                      refine aM_l hC hH (by decide) (by assumption) dM_sample_162 ?_
                      first | refine lv_aload_n hx hb dM_sample_163 rfl (lv_at hl 0 rfl) ?_ | refine lv_aload_nN hx hb dM_sample_163 rfl (lv_at hl 0 rfl) ?_
                      refine gM_input hC hH dM_sample_164 ?_
                      refine lv_iload hx hb dM_sample_167 (lv_at hl 4 rfl) ?_
                      refine aM_l hC hH (by decide) (by assumption) dM_sample_169 ?_
                      refine gcVl hC hl.1 hH (fun LL f sz hI => m_oneShot hI _ _) mJ.o rfl rfl kM_110 ⟨Nat.le_of_ble_eq_true rfl, Nat.le_of_ble_eq_true rfl⟩ dM_sample_170 ⟨Nat.le_of_ble_eq_true rfl, Nat.le_of_ble_eq_true rfl⟩ rfl (Nat.le_of_ble_eq_true rfl) (fun ov3 hov3 => ?_)
                      have hov4 : ov3 = ow := by rw [hov3, how, q2.2.2.2.2.2.2.2.2.1, q1.2.2.2.2.2.2.2.2.1]
                      clear hov3
                      subst hov4
                      refine sM_l hC hH (by decide) (by assumption) dM_sample_173 (fun H locs hH => ?_)
                      first | refine lv_aload_n hx hb dM_sample_174 rfl (lv_at hl 0 rfl) ?_ | refine lv_aload_nN hx hb dM_sample_174 rfl (lv_at hl 0 rfl) ?_
                      refine gM_by hC hH dM_sample_175 ?_
                      refine lv_iload hx hb dM_sample_178 (lv_at hl 4 rfl) ?_
                      refine lv_iconst (v := -1) hx hb dM_sample_180 (by decide) ?_
                      refine sM_i hC hH (by decide) (by assumption) dM_sample_181 (fun H locs hH => ?_)
                      first | refine lv_aload_n hx hb dM_sample_182 rfl (lv_at hl 0 rfl) ?_ | refine lv_aload_nN hx hb dM_sample_182 rfl (lv_at hl 0 rfl) ?_
                      refine gM_isRedone hC hH dM_sample_183 ?_
                      refine lv_iload hx hb dM_sample_186 (lv_at hl 4 rfl) ?_
                      refine lv_iconst (v := 1) hx hb dM_sample_188 (by decide) ?_
                      refine sM_z hC hH rfl (by decide) (by assumption) dM_sample_189 (fun H locs hH => ?_)
                      refine lv_iinc hx hb dM_sample_190 hl (k := 3) rfl rfl (by decide) rfl (fun ls hl => ?_)
                      have hl : lv_has ls 6 [(3, _), (0, _), (1, _), (2, _), (4, _)] := hl
                      refine lv_iinc hx hb dM_sample_193 hl (k := 4) rfl rfl (by decide) rfl (fun ls hl => ?_)
                      have hl : lv_has ls 6 [(4, _), (3, _), (0, _), (1, _), (2, _)] := hl
                      refine lv_goto (tgt := 109) hx hb dM_sample_196 (by decide) ?_
                      exact ih (a + 1) (w + Int32.ofInt 1) ls H locs (by omega) (by rw [hs, hw]; rfl) (by rw [hs]; exact mR.in hR3 hH) (by rw [← nI_1 a]; exact lv_sub hl [2, 3, 4, 1, 0] rfl)
                    refine lv_iload hx hb dM_sample_128 (lv_at hl 4 rfl) ?_
                    refine lv_iload_n hx hb dM_sample_130 rfl (lv_at hl 1 rfl) ?_
                    refine lv_icmp_eq  (tgt := 150) hx hb dM_sample_131 (by decide) (fun h7 => ?_) (fun h7 => ?_)
                    · exact hgo (Or.inl ((nI_eq (by omega) (by omega)).mp h7)) ls (lv_sub hl [0, 1, 2, 3, 4] rfl)
                    · have h8 : ¬ a = j := fun z => h7 (by rw [z])
                      first | refine lv_aload_n hx hb dM_sample_134 rfl (lv_at hl 0 rfl) ?_ | refine lv_aload_nN hx hb dM_sample_134 rfl (lv_at hl 0 rfl) ?_
                      refine gM_place hC hH dM_sample_135 ?_
                      refine lv_iload hx hb dM_sample_138 (lv_at hl 4 rfl) ?_
                      refine aM_i hC hH (by decide) (by assumption) dM_sample_140 ?_
                      first | refine lv_aload_n hx hb dM_sample_141 rfl (lv_at hl 0 rfl) ?_ | refine lv_aload_nN hx hb dM_sample_141 rfl (lv_at hl 0 rfl) ?_
                      refine gM_trusted hC hH dM_sample_142 ?_
                      refine lv_iload_n hx hb dM_sample_145 rfl (lv_at hl 2 rfl) ?_
                      refine aM_i hC hH (by decide) (by assumption) dM_sample_146 ?_
                      rw [q1.2.2.2.2.1 h6.1 (by rw [h6.2]; simp), q2.2.2.2.2.2.2.1]
                      refine lv_icmp_le  (tgt := 193) hx hb dM_sample_147 (by decide) (fun h10 => ?_) (fun h10 => ?_)
                      · refine lv_iinc hx hb dM_sample_193 hl (k := 4) rfl rfl (by decide) rfl (fun ls hl => ?_)
                        have hl : lv_has ls 6 [(4, _), (0, _), (1, _), (2, _), (3, _)] := hl
                        refine lv_goto (tgt := 109) hx hb dM_sample_196 (by decide) ?_
                        have hs : zRdF x j i (a + 1) = zRdF x j i a := if_neg (fun q => by rcases q.2.2.2 with z | z; exact h8 z; exact z h10)
                        exact ih (a + 1) w ls H locs (by omega) (by rw [hs]; exact hw) (by rw [hs]; exact hG) (by rw [← nI_1 a]; exact lv_sub hl [1, 2, 3, 4, 0] rfl)
                      · exact hgo (Or.inr h10) ls (lv_sub hl [0, 1, 2, 3, 4] rfl)
            · have h4 : rRs (gR x j) = ov2 := (lg_cmp_eq _ _).mp h3
              have hpl := qr.2.2.2.2.1 h1 (by rw [hq]; simp)
              have hR2 := hR.tru hi (if wTr (gW x i) < rPl (gR x j) then rPl (gR x j) else wTr (gW x i))
              first | refine lv_aload_n hx hb dM_sample_66 rfl (lv_at hl 1 rfl) ?_ | refine lv_aload_nN hx hb dM_sample_66 rfl (lv_at hl 1 rfl) ?_
              refine gM_trusted hC hH dM_sample_67 ?_
              refine lv_iload_n hx hb dM_sample_70 rfl (lv_at hl 0 rfl) ?_
              first | refine lv_aload_n hx hb dM_sample_71 rfl (lv_at hl 1 rfl) ?_ | refine lv_aload_nN hx hb dM_sample_71 rfl (lv_at hl 1 rfl) ?_
              refine gM_place hC hH dM_sample_72 ?_
              refine lv_iload_n hx hb dM_sample_75 rfl (lv_at hl 2 rfl) ?_
              refine aM_i hC hH (by decide) (by assumption) dM_sample_76 ?_
              first | refine lv_aload_n hx hb dM_sample_77 rfl (lv_at hl 1 rfl) ?_ | refine lv_aload_nN hx hb dM_sample_77 rfl (lv_at hl 1 rfl) ?_
              refine gM_trusted hC hH dM_sample_78 ?_
              refine lv_iload_n hx hb dM_sample_81 rfl (lv_at hl 0 rfl) ?_
              refine aM_i hC hH (by decide) (by assumption) dM_sample_82 ?_
              rw [hpl, qw.2.2.2.2.2.2.1]
              refine lv_icmp_le  (tgt := 95) hx hb dM_sample_83 (by decide) (fun h5 => ?_) (fun h5 => ?_)
              · first | refine lv_aload_n hx hb dM_sample_95 rfl (lv_at hl 1 rfl) ?_ | refine lv_aload_nN hx hb dM_sample_95 rfl (lv_at hl 1 rfl) ?_
                refine gM_trusted hC hH dM_sample_96 ?_
                refine lv_iload_n hx hb dM_sample_99 rfl (lv_at hl 0 rfl) ?_
                refine aM_i hC hH (by decide) (by assumption) dM_sample_100 ?_
                rw [qw.2.2.2.2.2.2.1]
                refine sM_i hC hH (by decide) (by assumption) dM_sample_101 (fun H locs hH => ?_)
                refine lv_iconst (v := 0) hx hb dM_sample_102 (by decide) ?_
                rw [if_neg (Int32.not_lt.mpr h5)] at hR2
                exact grWi hC hr hlk rfl (mR.in hR2 hH) (by simp only [zSam, hkk, hq]; rw [if_pos h1, ← hov, if_pos h4, if_neg (Int32.not_lt.mpr h5)]) dM_sample_103
              · first | refine lv_aload_n hx hb dM_sample_86 rfl (lv_at hl 1 rfl) ?_ | refine lv_aload_nN hx hb dM_sample_86 rfl (lv_at hl 1 rfl) ?_
                refine gM_place hC hH dM_sample_87 ?_
                refine lv_iload_n hx hb dM_sample_90 rfl (lv_at hl 2 rfl) ?_
                refine aM_i hC hH (by decide) (by assumption) dM_sample_91 ?_
                rw [hpl]
                refine lv_goto (tgt := 101) hx hb dM_sample_92 (by decide) ?_
                refine sM_i hC hH (by decide) (by assumption) dM_sample_101 (fun H locs hH => ?_)
                refine lv_iconst (v := 0) hx hb dM_sample_102 (by decide) ?_
                rw [if_pos (Int32.not_le.mp h5)] at hR2
                exact grWi hC hr hlk rfl (mR.in hR2 hH) (by simp only [zSam, hkk, hq]; rw [if_pos h1, ← hov, if_pos h4, if_pos (Int32.not_le.mp h5)]) dM_sample_103
        · have hq : rWk (gR x j) = none := (oI_neg _ (fun b hb => by have := okj.2 b hb; omega)).mp h2
          refine lv_iconst (v := -1) hx hb dM_sample_31 (by decide) ?_
          exact grWi hC hr hlk rfl (mR.in hR hH) (by simp only [zSam, hkk, hq]; rw [if_pos h1]) dM_sample_32
  · have hkk : lk (nR x) v = none := lk_out (fun i hi => hv i (by rw [hnR]; exact hi))
    refine lv_if_eq  (tgt := 31) hx hb dM_sample_8 (by decide) (fun h => ?_) (fun h => ?_)
    · refine lv_iconst (v := -1) hx hb dM_sample_31 (by decide) ?_
      exact grWi hC hr hlk rfl (mR.in hR hH) (by simp only [zSam, hkk]) dM_sample_32
    · exact absurd rfl h
end M7
end
section
/-! WorkerRowsModel(most, bound, idle): its rows one by one -/
def y00 : ms_S := ((0, 0, 0), 0, (0, 0, 0), (fun _ _ => 0), (fun _ _ => 0))
def mTs (cl : Nat → ClassId) (n : Nat) : List (ClassId × FieldType) := (List.range n).map (fun i => (cl (i + 7), mTy (i + 7)))
theorem mTs_push (cl : Nat → ClassId) (n : Nat) (c : ClassId) : mTs (va_up cl (n + 7) c) (n + 1) = mTs cl n ++ [(c, mTy (n + 7))] := by
  unfold mTs
  rw [List.range_succ, List.map_append]
  congr 1
  · apply List.map_congr_left
    intro i hi
    have := List.mem_range.mp hi
    rw [va_up_ne _ _ (by omega)]
  · simp [va_up]
def mB (o n : Nat) : ((Nat → Nat) × (Nat → ClassId) × List Value) → List Nat → (Nat → va_E) → Prop := fun u LL f => (o ∈ LL ∧ f o = .inr (4, u.2.2)) ∧ (∀ i, 7 ≤ i → i < n + 7 → u.1 i ∈ LL ∧ f (u.1 i) = mE (u.2.1 i) y00 i) ∧ (∀ a b, 7 ≤ a → a < n + 7 → 7 ≤ b → b < n + 7 → u.1 a = u.1 b → a = b)
section MN
variable {p : Program} {l : Launch} {e : Env} {R : Room} {s : State} {m : MethodId} {args : Array Value} {below : List Frame} {meth : Method} {c : Code} {H : Heap} {locs : List Loc} {cells slots : Nat} {Q : State → Prop} {cc : ByteArray} {pc nL : Nat} {ls : Array Slot} {rest : List Value} {D : va_G} {A : Nat → Prop} {H0 : Heap} {o n : Nat} {ka : Nat → Nat} {cl : Nat → ClassId} {fs : List Value}
theorem mPut (hC : gX RX4 (mTs cl n) D p s m args c cc nL) (hH : gH D (mB o n) (ka, cl, fs) A H0 H locs) (hfs : fs.length = 29) {k idx : Nat} (hk : k < 29) (hlink : Cond.fieldLink RX4 idx (TX4 k).1 (TX4 k).2.1 (TX4 k).2.2.1 ∈ wA) (hfin : (TX4 k).2.2.2 = true) (hnm : meth.name = "<init>") (hdecl : (TX4 k).1 = RX4) {v : Value} (hn : narrow (tyX4 k) v = v) (hfit : fits (tyX4 k) v = true) (hdg : decode cc pc = .ok (.putfield idx, 3)) (kk : ∀ (H1 : Heap) (locs1 : List Loc), gH D (mB o n) (ka, cl, fs.set k v) A H0 H1 locs1 → W p l e R s m args below meth c H1 locs1 cells slots Q (F0 m (pc + 3) ls rest)) : W p l e R s m args below meth c H locs cells slots Q (F0 m pc ls (v :: .ref o :: rest)) := by
  obtain ⟨LL, f, hI, hP, hD, hS⟩ := hH
  refine pw_putF hC.1 hC.2.1 hC.2.2.1 inX4 tyX4 tyX4_ok nmX4 hC.2.2.2.1 hC.2.2.2.2.1 hP hD hS hI.1.1 hI.1.2 rfl k hk (hC.2.2.1 _ hlink) hfin hnm hdecl hn hfit (by show k < fs.length; omega) hdg (fun H1 locs1 h1 h2 h3 => kk H1 locs1 ⟨LL, _, ⟨⟨hI.1.1, va_up_self _ _ _⟩, fun i hi hi2 => ⟨(hI.2.1 i hi hi2).1, ?_⟩, hI.2.2⟩, h1, h2, h3⟩)
  have e := (hI.2.1 i hi hi2).2
  rw [va_up_ne _ _ (fun q => by rw [q, hI.1.2] at e; exact mE_ne e.symm)]
  exact e
theorem mNA (hC : gX RX4 (mTs cl n) D p s m args c cc nL) (hA : ∀ q, H0.size ≤ q → A q) (hH : gH D (mB o n) (ka, cl, fs) A H0 H locs) (hfs : fs.length = 29) (hn : n < 22) {at' : ArrayType} (harr : Cond.arrayClass (newarray.typeOf at') ∈ wA) (hty : newarray.typeOf at' = mTy (n + 7)) {a0 : vp_A} (ha0 : ∀ c, mE c y00 (n + 7) = .inl (c, a0)) (ha1 : ∀ cA : ClassId, vp_cell cA a0 = arrV cA (mLen (n + 7)) (fun _ => defaultValue (mTy (n + 7)))) {v : Int32} (hv : ¬ v < 0) (hN : v.toNatClampNeg = mLen (n + 7)) (hby : mLen (n + 7) * componentBytes (mTy (n + 7)) ≤ 536870912) (hcells : cells + 1 ≤ R.cells) (hslots : slots + mLen (n + 7) ≤ R.slots) (hd1 : decode cc pc = .ok (.newarray at', 2)) {idx : Nat} (hlink : Cond.fieldLink RX4 idx (TX4 (n + 7)).1 (TX4 (n + 7)).2.1 (TX4 (n + 7)).2.2.1 ∈ wA) (hfin : (TX4 (n + 7)).2.2.2 = true) (hnm : meth.name = "<init>") (hdecl : (TX4 (n + 7)).1 = RX4) (hnar : ∀ q, narrow (tyX4 (n + 7)) (.ref q) = .ref q) (hfit : ∀ q, fits (tyX4 (n + 7)) (.ref q) = true) (hd2 : decode cc (pc + 2) = .ok (.putfield idx, 3))
    (kk : ∀ (q : Nat) (cA : ClassId) (H1 : Heap) (locs1 : List Loc), gX RX4 (mTs (va_up cl (n + 7) cA) (n + 1)) D p s m args c cc nL → gH D (mB o (n + 1)) (va_up ka (n + 7) q, va_up cl (n + 7) cA, fs.set (n + 7) (.ref q)) A H0 H1 locs1 → W p l e R s m args below meth c H1 locs1 (cells + 1) (slots + mLen (n + 7)) Q (F0 m (pc + 2 + 3) ls rest)) : W p l e R s m args below meth c H locs cells slots Q (F0 m pc ls (.int v :: .ref o :: rest)) := by
  obtain ⟨LL, f, hI, hP, hD, hS⟩ := hH
  refine pw_newa hC.1 hC.2.1 (hC.2.2.1 _ harr) hty hC.2.2.2.2.1 hP hD hS hA ha1 hv hN hby hcells hslots hd1 (fun q cA H1 hq hK h1 h2 h3 => ?_)
  have hoq : o ≠ q := fun z => hq (z ▸ hI.1.1)
  have hK2 : va_K D vwCl (mTs (va_up cl (n + 7) cA) (n + 1)) s := by rw [mTs_push]; exact hK
  have hC2 : gX RX4 (mTs (va_up cl (n + 7) cA) (n + 1)) D p s m args c cc nL := ⟨hC.1, hC.2.1, hC.2.2.1, hC.2.2.2.1, hK2, hC.2.2.2.2.2⟩
  refine pw_putF hC.1 hC.2.1 hC.2.2.1 inX4 tyX4 tyX4_ok nmX4 hC.2.2.2.1 hK2 h1 h2 h3 (List.mem_append_left _ hI.1.1) ((va_up_ne _ _ hoq).trans hI.1.2) rfl (n + 7) (by omega) (hC.2.2.1 _ hlink) hfin hnm hdecl (hnar q) (hfit q) (by show n + 7 < fs.length; omega) hd2 (fun H2 locs2 g1 g2 g3 => kk q cA H2 locs2 hC2 ⟨LL ++ [q], _, ⟨⟨List.mem_append_left _ hI.1.1, va_up_self _ _ _⟩, fun i hi hi2 => ?_, fun a b ha ha2 hb hb2 hab => ?_⟩, g1, g2, g3⟩)
  · show va_up ka (n + 7) q i ∈ LL ++ [q] ∧ va_up _ o _ (va_up ka (n + 7) q i) = mE (va_up cl (n + 7) cA i) y00 i
    by_cases e : i = n + 7
    · subst e
      rw [va_up_self, va_up_self, va_up_ne _ _ hoq.symm, va_up_self, ha0]
      exact ⟨List.mem_append_right _ (List.mem_singleton.mpr rfl), rfl⟩
    · have h9 := hI.2.1 i hi (by omega)
      have e9 : f (ka i) = mE (cl i) y00 i := h9.2
      have z1 : ka i ≠ o := fun z => by rw [z, hI.1.2] at e9; exact mE_ne e9.symm
      have z2 : ka i ≠ q := fun z => hq (z ▸ h9.1)
      rw [va_up_ne _ _ e, va_up_ne _ _ e, va_up_ne _ _ z1, va_up_ne _ _ z2]
      exact ⟨List.mem_append_left _ h9.1, e9⟩
  · have hab : va_up ka (n + 7) q a = va_up ka (n + 7) q b := hab
    by_cases e1 : a = n + 7
    · by_cases e2 : b = n + 7
      · omega
      · rw [e1, va_up_self, va_up_ne _ _ e2] at hab
        exact absurd (show ka b ∈ LL from (hI.2.1 b hb (by omega)).1) (by rw [← hab]; exact hq)
    · by_cases e2 : b = n + 7
      · rw [e2, va_up_self, va_up_ne _ _ e1] at hab
        exact absurd (show ka a ∈ LL from (hI.2.1 a ha (by omega)).1) (by rw [hab]; exact hq)
      · rw [va_up_ne _ _ e1, va_up_ne _ _ e2] at hab
        exact hI.2.2 a b ha (by omega) hb (by omega) hab
end MN
theorem zBtw_near {v lo hi : Int32} (h : lo ≤ hi) : zBtw v lo hi = zNear v lo hi := by
  unfold zBtw zNear
  have h1 := Int32.le_iff_toInt_le.mp h
  by_cases a : lo ≤ v
  · have a1 := Int32.le_iff_toInt_le.mp a
    rw [if_pos a]
    by_cases b : v ≤ hi
    · have b1 := Int32.le_iff_toInt_le.mp b
      rw [if_pos b]
      by_cases c1 : v < hi
      · rw [if_pos c1]
        by_cases d : lo < v
        · rw [if_pos d]
        · rw [if_neg d]
          exact Int32.toInt_inj.mp (by have := Int32.le_iff_toInt_le.mp (Int32.not_lt.mp d); omega)
      · rw [if_neg c1]
        have e : v = hi := Int32.toInt_inj.mp (by have := Int32.le_iff_toInt_le.mp (Int32.not_lt.mp c1); omega)
        subst e
        by_cases d : lo < v
        · rw [if_pos d]
        · rw [if_neg d]
          exact Int32.toInt_inj.mp (by have := Int32.le_iff_toInt_le.mp (Int32.not_lt.mp d); omega)
    · have b1 := Int32.lt_iff_toInt_lt.mp (Int32.not_le.mp b)
      have hv : ¬ v < hi := fun q => by
        have := Int32.lt_iff_toInt_lt.mp q
        omega
      rw [if_neg b, if_neg hv]
      by_cases d : lo < hi
      · rw [if_pos d]
      · rw [if_neg d]
        exact Int32.toInt_inj.mp (by have := Int32.le_iff_toInt_le.mp (Int32.not_lt.mp d); omega)
  · have a1 := Int32.lt_iff_toInt_lt.mp (Int32.not_le.mp a)
    have hv : v < hi := Int32.lt_iff_toInt_lt.mpr (by omega)
    have hv2 : ¬ lo < v := fun q => by
      have := Int32.lt_iff_toInt_lt.mp q
      omega
    rw [if_neg a, if_pos hv, if_neg hv2]
theorem Rel0 (mo bo id : Int32) : Rel (cs0 mo bo id) ((mo, bo, id), 0, (0, 0, 0), (fun _ _ => 0), (fun _ _ => 0)) := ⟨⟨rfl, rfl, rfl⟩, ⟨⟨Nat.zero_le _, Nat.zero_le _, Nat.zero_le _⟩, fun i h => absurd h (Nat.not_lt_zero i), fun i h => absurd h (Nat.not_lt_zero i)⟩, ⟨(by decide : (0 : Int) ≤ (0 : Int32).toInt), (by decide : (0 : Int32).toInt ≤ 1000000000)⟩, fun i h => absurd h (Nat.not_lt_zero i), fun i h => absurd h (Nat.not_lt_zero i), fun i h => absurd h (Nat.not_lt_zero i), fun i j h => absurd h (Nat.not_lt_zero i), fun i _ _ => ⟨rfl, rfl, rfl, rfl, rfl, rfl⟩, fun i _ _ => ⟨rfl, rfl, rfl, rfl⟩⟩
def mP0 (D : va_G) (a : Nat) (g : Nat → va_E) (sz : Nat) (av : List Value) : Array Value → State → Prop := va_Pc av (fun U => U.heap.size = sz ∧ va_P D vwCl (va_pl [a] g) U.heap ∧ va_K D vwCl [] U ∧ va_D (fun _ => True) (va_pl [a] g))
def mB0 (D : va_G) (A : Nat → Prop) (u : mk_F × cs_S) (t : State) : Prop := gB D (mk_tys u.1) (mR u.1) A u.2 t
section MI0
variable {l : Launch} {D : va_G} {a : Nat} {g : Nat → va_E} {sz : Nat}
set_option maxHeartbeats 400000 in
set_option maxRecDepth 100000 in
theorem m_init (hg : g a = .inr (4, [.int 0, .int 0, .int 0, .int 0, .int 0, .int 0, .int 0, .null, .null, .null, .null, .null, .null, .null, .null, .null, .null, .null, .null, .null, .null, .null, .null, .null, .null, .null, .null, .null, .null])) (mo bo id : Int32) : Met l yM_init (wz yM_init bM_init 4 none) (rmL 1 22 1558) (mP0 D a g sz [.ref a, .int mo, .int bo, .int id]) (va_Qv (fun (u : mk_F × cs_S) => mO u.1 = a ∧ u.2 = cs0 (zNear mo 1 4) (zNear bo 0 100000) (zNear id 1 1000)) (mB0 D (va_A (va_pl [a] g) sz)) (va_A (va_pl [a] g) sz)) 22 1558 (va_A (va_pl [a] g) sz) := by
  refine Met.ofW (cc := bM_init) (maxL := 4) (ret := none) (by decide) rfl ?_
  intro p e s m args below meth c s₁ B hml hv
  obtain ⟨rfl, hsz, hP, hK, hD0⟩ := hv
  subst hsz
  rw [lg_entry_eq]
  have hts := atoms_spec (ws := wz yM_init bM_init 4 none) B.pre
  have hown : s.vm.findClass RX4 = some m.cls := findClass_of_methodNamed B.named
  have hC : gX RX4 (mTs (fun _ => 0) 0) D p s m ([.ref a, .int mo, .int bo, .int id] : List Value).toArray c bM_init 4 := ⟨B.exec, B.bytes, fun w h => hts w (List.mem_cons_of_mem _ h), hown, hK, hml⟩
  have hr := B.returns
  have hlk := B.notSynchronized
  have hnm : meth.name = "<init>" := (name_of_methodNamed B.named B.method).1
  have hH : gH D (mB a 0) ((fun _ => 0), (fun _ => 0), [.int 0, .int 0, .int 0, .int 0, .int 0, .int 0, .int 0, .null, .null, .null, .null, .null, .null, .null, .null, .null, .null, .null, .null, .null, .null, .null, .null, .null, .null, .null, .null, .null, .null]) (va_A (va_pl [a] g) s.heap.size) s.heap s.heap [] := ⟨_, _, ⟨⟨List.mem_singleton.mpr rfl, hg⟩, fun i h1 h2 => absurd h2 (by omega), fun i j h1 h2 => absurd h2 (by omega)⟩, hP, hD0.self, va_S.rf⟩
  have hl := lv_entry ([.ref a, .int mo, .int bo, .int id]) (n := 4) (Nat.le_of_ble_eq_true rfl)
  generalize (lg_sl ([.ref a, .int mo, .int bo, .int id]) ++ List.replicate (4 - (lg_sl ([.ref a, .int mo, .int bo, .int id])).length) Slot.unset).toArray = ls at hl ⊢
  generalize hAe : va_A (va_pl [a] g) s.heap.size = A at hH ⊢
  have hA : ∀ q : Nat, s.heap.size ≤ q → A q := fun q h => by rw [← hAe]; exact Or.inr h
  have hx := hC.1
  have hb := hC.2.1
  have hml := hC.2.2.2.2.2
  have hts := hC.2.2.1
  have hown := hC.2.2.2.1
  have hl : lv_has ls 4 [(0, _), (1, _), (2, _), (3, _)] := hl
  first | refine lv_aload_n hx hb dM_init_0 rfl (lv_at hl 0 rfl) ?_ | refine lv_aload_nN hx hb dM_init_0 rfl (lv_at hl 0 rfl) ?_
  refine W.objInit hx hb hown (hts _ wm_M_1) (hts _ wi_O_init) (hts _ wc_O_init) rfl (by rw [hml]; exact hl.1) rfl dM_init_1 (Nat.le_of_ble_eq_true rfl) (Nat.le_of_ble_eq_true rfl) ?_
  refine W.eq (g2 := F0 m 4 ls []) rfl ?_
  first | refine lv_aload_n hx hb dM_init_4 rfl (lv_at hl 0 rfl) ?_ | refine lv_aload_nN hx hb dM_init_4 rfl (lv_at hl 0 rfl) ?_
  refine lv_bipush (v := 6) hx hb dM_init_5 (by decide) ?_
  refine mNA (n := 0) (a0 := (6, .inr (.inl (fun _ => 0)))) (at' := .long) hC hA hH (by (try simp only [List.length_set]); rfl) (by decide) wr_long rfl (fun _ => rfl) (fun _ => rfl) (by decide) (by decide) (by decide) (Nat.le_of_ble_eq_true rfl) (Nat.le_of_ble_eq_true rfl) dM_init_7 wf_M_7 rfl hnm rfl (fun _ => rfl) (fun _ => rfl) dM_init_9 (fun q0 c0 H locs hC hH => ?_)
  have hH : gH D (mB a 1) (_, _, [.int 0, .int 0, .int 0, .int 0, .int 0, .int 0, .int 0, .ref q0, .null, .null, .null, .null, .null, .null, .null, .null, .null, .null, .null, .null, .null, .null, .null, .null, .null, .null, .null, .null, .null]) A s.heap H locs := hH
  first | refine lv_aload_n hx hb dM_init_12 rfl (lv_at hl 0 rfl) ?_ | refine lv_aload_nN hx hb dM_init_12 rfl (lv_at hl 0 rfl) ?_
  refine lv_bipush (v := 6) hx hb dM_init_13 (by decide) ?_
  refine mNA (n := 1) (a0 := (6, .inl (fun _ => 0))) (at' := .int) hC hA hH (by (try simp only [List.length_set]); rfl) (by decide) wr_int rfl (fun _ => rfl) (fun _ => rfl) (by decide) (by decide) (by decide) (Nat.le_of_ble_eq_true rfl) (Nat.le_of_ble_eq_true rfl) dM_init_15 wf_M_13 rfl hnm rfl (fun _ => rfl) (fun _ => rfl) dM_init_17 (fun q1 c1 H locs hC hH => ?_)
  have hH : gH D (mB a 2) (_, _, [.int 0, .int 0, .int 0, .int 0, .int 0, .int 0, .int 0, .ref q0, .ref q1, .null, .null, .null, .null, .null, .null, .null, .null, .null, .null, .null, .null, .null, .null, .null, .null, .null, .null, .null, .null]) A s.heap H locs := hH
  first | refine lv_aload_n hx hb dM_init_20 rfl (lv_at hl 0 rfl) ?_ | refine lv_aload_nN hx hb dM_init_20 rfl (lv_at hl 0 rfl) ?_
  refine lv_bipush (v := 6) hx hb dM_init_21 (by decide) ?_
  refine mNA (n := 2) (a0 := (6, .inl (fun _ => 0))) (at' := .int) hC hA hH (by (try simp only [List.length_set]); rfl) (by decide) wr_int rfl (fun _ => rfl) (fun _ => rfl) (by decide) (by decide) (by decide) (Nat.le_of_ble_eq_true rfl) (Nat.le_of_ble_eq_true rfl) dM_init_23 wf_M_17 rfl hnm rfl (fun _ => rfl) (fun _ => rfl) dM_init_25 (fun q2 c2 H locs hC hH => ?_)
  have hH : gH D (mB a 3) (_, _, [.int 0, .int 0, .int 0, .int 0, .int 0, .int 0, .int 0, .ref q0, .ref q1, .ref q2, .null, .null, .null, .null, .null, .null, .null, .null, .null, .null, .null, .null, .null, .null, .null, .null, .null, .null, .null]) A s.heap H locs := hH
  first | refine lv_aload_n hx hb dM_init_28 rfl (lv_at hl 0 rfl) ?_ | refine lv_aload_nN hx hb dM_init_28 rfl (lv_at hl 0 rfl) ?_
  refine lv_bipush (v := 60) hx hb dM_init_29 (by decide) ?_
  refine mNA (n := 3) (a0 := (60, .inl (fun _ => 0))) (at' := .int) hC hA hH (by (try simp only [List.length_set]); rfl) (by decide) wr_int rfl (fun _ => rfl) (fun _ => rfl) (by decide) (by decide) (by decide) (Nat.le_of_ble_eq_true rfl) (Nat.le_of_ble_eq_true rfl) dM_init_31 wf_M_20 rfl hnm rfl (fun _ => rfl) (fun _ => rfl) dM_init_33 (fun q3 c3 H locs hC hH => ?_)
  have hH : gH D (mB a 4) (_, _, [.int 0, .int 0, .int 0, .int 0, .int 0, .int 0, .int 0, .ref q0, .ref q1, .ref q2, .ref q3, .null, .null, .null, .null, .null, .null, .null, .null, .null, .null, .null, .null, .null, .null, .null, .null, .null, .null]) A s.heap H locs := hH
  first | refine lv_aload_n hx hb dM_init_36 rfl (lv_at hl 0 rfl) ?_ | refine lv_aload_nN hx hb dM_init_36 rfl (lv_at hl 0 rfl) ?_
  refine lv_bipush (v := 60) hx hb dM_init_37 (by decide) ?_
  refine mNA (n := 4) (a0 := (60, .inl (fun _ => 0))) (at' := .int) hC hA hH (by (try simp only [List.length_set]); rfl) (by decide) wr_int rfl (fun _ => rfl) (fun _ => rfl) (by decide) (by decide) (by decide) (Nat.le_of_ble_eq_true rfl) (Nat.le_of_ble_eq_true rfl) dM_init_39 wf_M_23 rfl hnm rfl (fun _ => rfl) (fun _ => rfl) dM_init_41 (fun q4 c4 H locs hC hH => ?_)
  have hH : gH D (mB a 5) (_, _, [.int 0, .int 0, .int 0, .int 0, .int 0, .int 0, .int 0, .ref q0, .ref q1, .ref q2, .ref q3, .ref q4, .null, .null, .null, .null, .null, .null, .null, .null, .null, .null, .null, .null, .null, .null, .null, .null, .null]) A s.heap H locs := hH
  first | refine lv_aload_n hx hb dM_init_44 rfl (lv_at hl 0 rfl) ?_ | refine lv_aload_nN hx hb dM_init_44 rfl (lv_at hl 0 rfl) ?_
  refine lv_bipush (v := 60) hx hb dM_init_45 (by decide) ?_
  refine mNA (n := 5) (a0 := (60, .inl (fun _ => 0))) (at' := .int) hC hA hH (by (try simp only [List.length_set]); rfl) (by decide) wr_int rfl (fun _ => rfl) (fun _ => rfl) (by decide) (by decide) (by decide) (Nat.le_of_ble_eq_true rfl) (Nat.le_of_ble_eq_true rfl) dM_init_47 wf_M_26 rfl hnm rfl (fun _ => rfl) (fun _ => rfl) dM_init_49 (fun q5 c5 H locs hC hH => ?_)
  have hH : gH D (mB a 6) (_, _, [.int 0, .int 0, .int 0, .int 0, .int 0, .int 0, .int 0, .ref q0, .ref q1, .ref q2, .ref q3, .ref q4, .ref q5, .null, .null, .null, .null, .null, .null, .null, .null, .null, .null, .null, .null, .null, .null, .null, .null]) A s.heap H locs := hH
  first | refine lv_aload_n hx hb dM_init_52 rfl (lv_at hl 0 rfl) ?_ | refine lv_aload_nN hx hb dM_init_52 rfl (lv_at hl 0 rfl) ?_
  refine lv_bipush (v := 60) hx hb dM_init_53 (by decide) ?_
  refine mNA (n := 6) (a0 := (60, .inl (fun _ => 0))) (at' := .int) hC hA hH (by (try simp only [List.length_set]); rfl) (by decide) wr_int rfl (fun _ => rfl) (fun _ => rfl) (by decide) (by decide) (by decide) (Nat.le_of_ble_eq_true rfl) (Nat.le_of_ble_eq_true rfl) dM_init_55 wf_M_29 rfl hnm rfl (fun _ => rfl) (fun _ => rfl) dM_init_57 (fun q6 c6 H locs hC hH => ?_)
  have hH : gH D (mB a 7) (_, _, [.int 0, .int 0, .int 0, .int 0, .int 0, .int 0, .int 0, .ref q0, .ref q1, .ref q2, .ref q3, .ref q4, .ref q5, .ref q6, .null, .null, .null, .null, .null, .null, .null, .null, .null, .null, .null, .null, .null, .null, .null]) A s.heap H locs := hH
  first | refine lv_aload_n hx hb dM_init_60 rfl (lv_at hl 0 rfl) ?_ | refine lv_aload_nN hx hb dM_init_60 rfl (lv_at hl 0 rfl) ?_
  refine lv_bipush (v := 60) hx hb dM_init_61 (by decide) ?_
  refine mNA (n := 7) (a0 := (60, .inl (fun _ => 0))) (at' := .int) hC hA hH (by (try simp only [List.length_set]); rfl) (by decide) wr_int rfl (fun _ => rfl) (fun _ => rfl) (by decide) (by decide) (by decide) (Nat.le_of_ble_eq_true rfl) (Nat.le_of_ble_eq_true rfl) dM_init_63 wf_M_32 rfl hnm rfl (fun _ => rfl) (fun _ => rfl) dM_init_65 (fun q7 c7 H locs hC hH => ?_)
  have hH : gH D (mB a 8) (_, _, [.int 0, .int 0, .int 0, .int 0, .int 0, .int 0, .int 0, .ref q0, .ref q1, .ref q2, .ref q3, .ref q4, .ref q5, .ref q6, .ref q7, .null, .null, .null, .null, .null, .null, .null, .null, .null, .null, .null, .null, .null, .null]) A s.heap H locs := hH
  first | refine lv_aload_n hx hb dM_init_68 rfl (lv_at hl 0 rfl) ?_ | refine lv_aload_nN hx hb dM_init_68 rfl (lv_at hl 0 rfl) ?_
  refine lv_bipush (v := 60) hx hb dM_init_69 (by decide) ?_
  refine mNA (n := 8) (a0 := (60, .inl (fun _ => 0))) (at' := .int) hC hA hH (by (try simp only [List.length_set]); rfl) (by decide) wr_int rfl (fun _ => rfl) (fun _ => rfl) (by decide) (by decide) (by decide) (Nat.le_of_ble_eq_true rfl) (Nat.le_of_ble_eq_true rfl) dM_init_71 wf_M_35 rfl hnm rfl (fun _ => rfl) (fun _ => rfl) dM_init_73 (fun q8 c8 H locs hC hH => ?_)
  have hH : gH D (mB a 9) (_, _, [.int 0, .int 0, .int 0, .int 0, .int 0, .int 0, .int 0, .ref q0, .ref q1, .ref q2, .ref q3, .ref q4, .ref q5, .ref q6, .ref q7, .ref q8, .null, .null, .null, .null, .null, .null, .null, .null, .null, .null, .null, .null, .null]) A s.heap H locs := hH
  first | refine lv_aload_n hx hb dM_init_76 rfl (lv_at hl 0 rfl) ?_ | refine lv_aload_nN hx hb dM_init_76 rfl (lv_at hl 0 rfl) ?_
  refine lv_bipush (v := 60) hx hb dM_init_77 (by decide) ?_
  refine mNA (n := 9) (a0 := (60, .inl (fun _ => 0))) (at' := .int) hC hA hH (by (try simp only [List.length_set]); rfl) (by decide) wr_int rfl (fun _ => rfl) (fun _ => rfl) (by decide) (by decide) (by decide) (Nat.le_of_ble_eq_true rfl) (Nat.le_of_ble_eq_true rfl) dM_init_79 wf_M_38 rfl hnm rfl (fun _ => rfl) (fun _ => rfl) dM_init_81 (fun q9 c9 H locs hC hH => ?_)
  have hH : gH D (mB a 10) (_, _, [.int 0, .int 0, .int 0, .int 0, .int 0, .int 0, .int 0, .ref q0, .ref q1, .ref q2, .ref q3, .ref q4, .ref q5, .ref q6, .ref q7, .ref q8, .ref q9, .null, .null, .null, .null, .null, .null, .null, .null, .null, .null, .null, .null]) A s.heap H locs := hH
  first | refine lv_aload_n hx hb dM_init_84 rfl (lv_at hl 0 rfl) ?_ | refine lv_aload_nN hx hb dM_init_84 rfl (lv_at hl 0 rfl) ?_
  refine lv_bipush (v := 60) hx hb dM_init_85 (by decide) ?_
  refine mNA (n := 10) (a0 := (60, .inl (fun _ => 0))) (at' := .int) hC hA hH (by (try simp only [List.length_set]); rfl) (by decide) wr_int rfl (fun _ => rfl) (fun _ => rfl) (by decide) (by decide) (by decide) (Nat.le_of_ble_eq_true rfl) (Nat.le_of_ble_eq_true rfl) dM_init_87 wf_M_41 rfl hnm rfl (fun _ => rfl) (fun _ => rfl) dM_init_89 (fun q10 c10 H locs hC hH => ?_)
  have hH : gH D (mB a 11) (_, _, [.int 0, .int 0, .int 0, .int 0, .int 0, .int 0, .int 0, .ref q0, .ref q1, .ref q2, .ref q3, .ref q4, .ref q5, .ref q6, .ref q7, .ref q8, .ref q9, .ref q10, .null, .null, .null, .null, .null, .null, .null, .null, .null, .null, .null]) A s.heap H locs := hH
  first | refine lv_aload_n hx hb dM_init_92 rfl (lv_at hl 0 rfl) ?_ | refine lv_aload_nN hx hb dM_init_92 rfl (lv_at hl 0 rfl) ?_
  refine lv_bipush (v := 60) hx hb dM_init_93 (by decide) ?_
  refine mNA (n := 11) (a0 := (60, .inr (.inl (fun _ => 0)))) (at' := .long) hC hA hH (by (try simp only [List.length_set]); rfl) (by decide) wr_long rfl (fun _ => rfl) (fun _ => rfl) (by decide) (by decide) (by decide) (Nat.le_of_ble_eq_true rfl) (Nat.le_of_ble_eq_true rfl) dM_init_95 wf_M_44 rfl hnm rfl (fun _ => rfl) (fun _ => rfl) dM_init_97 (fun q11 c11 H locs hC hH => ?_)
  have hH : gH D (mB a 12) (_, _, [.int 0, .int 0, .int 0, .int 0, .int 0, .int 0, .int 0, .ref q0, .ref q1, .ref q2, .ref q3, .ref q4, .ref q5, .ref q6, .ref q7, .ref q8, .ref q9, .ref q10, .ref q11, .null, .null, .null, .null, .null, .null, .null, .null, .null, .null]) A s.heap H locs := hH
  first | refine lv_aload_n hx hb dM_init_100 rfl (lv_at hl 0 rfl) ?_ | refine lv_aload_nN hx hb dM_init_100 rfl (lv_at hl 0 rfl) ?_
  refine lv_bipush (v := 100) hx hb dM_init_101 (by decide) ?_
  refine mNA (n := 12) (a0 := (100, .inl (fun _ => 0))) (at' := .int) hC hA hH (by (try simp only [List.length_set]); rfl) (by decide) wr_int rfl (fun _ => rfl) (fun _ => rfl) (by decide) (by decide) (by decide) (Nat.le_of_ble_eq_true rfl) (Nat.le_of_ble_eq_true rfl) dM_init_103 wf_M_47 rfl hnm rfl (fun _ => rfl) (fun _ => rfl) dM_init_105 (fun q12 c12 H locs hC hH => ?_)
  have hH : gH D (mB a 13) (_, _, [.int 0, .int 0, .int 0, .int 0, .int 0, .int 0, .int 0, .ref q0, .ref q1, .ref q2, .ref q3, .ref q4, .ref q5, .ref q6, .ref q7, .ref q8, .ref q9, .ref q10, .ref q11, .ref q12, .null, .null, .null, .null, .null, .null, .null, .null, .null]) A s.heap H locs := hH
  first | refine lv_aload_n hx hb dM_init_108 rfl (lv_at hl 0 rfl) ?_ | refine lv_aload_nN hx hb dM_init_108 rfl (lv_at hl 0 rfl) ?_
  refine lv_bipush (v := 100) hx hb dM_init_109 (by decide) ?_
  refine mNA (n := 13) (a0 := (100, .inl (fun _ => 0))) (at' := .int) hC hA hH (by (try simp only [List.length_set]); rfl) (by decide) wr_int rfl (fun _ => rfl) (fun _ => rfl) (by decide) (by decide) (by decide) (Nat.le_of_ble_eq_true rfl) (Nat.le_of_ble_eq_true rfl) dM_init_111 wf_M_50 rfl hnm rfl (fun _ => rfl) (fun _ => rfl) dM_init_113 (fun q13 c13 H locs hC hH => ?_)
  have hH : gH D (mB a 14) (_, _, [.int 0, .int 0, .int 0, .int 0, .int 0, .int 0, .int 0, .ref q0, .ref q1, .ref q2, .ref q3, .ref q4, .ref q5, .ref q6, .ref q7, .ref q8, .ref q9, .ref q10, .ref q11, .ref q12, .ref q13, .null, .null, .null, .null, .null, .null, .null, .null]) A s.heap H locs := hH
  first | refine lv_aload_n hx hb dM_init_116 rfl (lv_at hl 0 rfl) ?_ | refine lv_aload_nN hx hb dM_init_116 rfl (lv_at hl 0 rfl) ?_
  refine lv_bipush (v := 100) hx hb dM_init_117 (by decide) ?_
  refine mNA (n := 14) (a0 := (100, .inl (fun _ => 0))) (at' := .int) hC hA hH (by (try simp only [List.length_set]); rfl) (by decide) wr_int rfl (fun _ => rfl) (fun _ => rfl) (by decide) (by decide) (by decide) (Nat.le_of_ble_eq_true rfl) (Nat.le_of_ble_eq_true rfl) dM_init_119 wf_M_53 rfl hnm rfl (fun _ => rfl) (fun _ => rfl) dM_init_121 (fun q14 c14 H locs hC hH => ?_)
  have hH : gH D (mB a 15) (_, _, [.int 0, .int 0, .int 0, .int 0, .int 0, .int 0, .int 0, .ref q0, .ref q1, .ref q2, .ref q3, .ref q4, .ref q5, .ref q6, .ref q7, .ref q8, .ref q9, .ref q10, .ref q11, .ref q12, .ref q13, .ref q14, .null, .null, .null, .null, .null, .null, .null]) A s.heap H locs := hH
  first | refine lv_aload_n hx hb dM_init_124 rfl (lv_at hl 0 rfl) ?_ | refine lv_aload_nN hx hb dM_init_124 rfl (lv_at hl 0 rfl) ?_
  refine lv_bipush (v := 100) hx hb dM_init_125 (by decide) ?_
  refine mNA (n := 15) (a0 := (100, .inl (fun _ => 0))) (at' := .int) hC hA hH (by (try simp only [List.length_set]); rfl) (by decide) wr_int rfl (fun _ => rfl) (fun _ => rfl) (by decide) (by decide) (by decide) (Nat.le_of_ble_eq_true rfl) (Nat.le_of_ble_eq_true rfl) dM_init_127 wf_M_56 rfl hnm rfl (fun _ => rfl) (fun _ => rfl) dM_init_129 (fun q15 c15 H locs hC hH => ?_)
  have hH : gH D (mB a 16) (_, _, [.int 0, .int 0, .int 0, .int 0, .int 0, .int 0, .int 0, .ref q0, .ref q1, .ref q2, .ref q3, .ref q4, .ref q5, .ref q6, .ref q7, .ref q8, .ref q9, .ref q10, .ref q11, .ref q12, .ref q13, .ref q14, .ref q15, .null, .null, .null, .null, .null, .null]) A s.heap H locs := hH
  first | refine lv_aload_n hx hb dM_init_132 rfl (lv_at hl 0 rfl) ?_ | refine lv_aload_nN hx hb dM_init_132 rfl (lv_at hl 0 rfl) ?_
  refine lv_bipush (v := 100) hx hb dM_init_133 (by decide) ?_
  refine mNA (n := 16) (a0 := (100, .inl (fun _ => 0))) (at' := .int) hC hA hH (by (try simp only [List.length_set]); rfl) (by decide) wr_int rfl (fun _ => rfl) (fun _ => rfl) (by decide) (by decide) (by decide) (Nat.le_of_ble_eq_true rfl) (Nat.le_of_ble_eq_true rfl) dM_init_135 wf_M_59 rfl hnm rfl (fun _ => rfl) (fun _ => rfl) dM_init_137 (fun q16 c16 H locs hC hH => ?_)
  have hH : gH D (mB a 17) (_, _, [.int 0, .int 0, .int 0, .int 0, .int 0, .int 0, .int 0, .ref q0, .ref q1, .ref q2, .ref q3, .ref q4, .ref q5, .ref q6, .ref q7, .ref q8, .ref q9, .ref q10, .ref q11, .ref q12, .ref q13, .ref q14, .ref q15, .ref q16, .null, .null, .null, .null, .null]) A s.heap H locs := hH
  first | refine lv_aload_n hx hb dM_init_140 rfl (lv_at hl 0 rfl) ?_ | refine lv_aload_nN hx hb dM_init_140 rfl (lv_at hl 0 rfl) ?_
  refine lv_bipush (v := 100) hx hb dM_init_141 (by decide) ?_
  refine mNA (n := 17) (a0 := (100, .inl (fun _ => 0))) (at' := .int) hC hA hH (by (try simp only [List.length_set]); rfl) (by decide) wr_int rfl (fun _ => rfl) (fun _ => rfl) (by decide) (by decide) (by decide) (Nat.le_of_ble_eq_true rfl) (Nat.le_of_ble_eq_true rfl) dM_init_143 wf_M_62 rfl hnm rfl (fun _ => rfl) (fun _ => rfl) dM_init_145 (fun q17 c17 H locs hC hH => ?_)
  have hH : gH D (mB a 18) (_, _, [.int 0, .int 0, .int 0, .int 0, .int 0, .int 0, .int 0, .ref q0, .ref q1, .ref q2, .ref q3, .ref q4, .ref q5, .ref q6, .ref q7, .ref q8, .ref q9, .ref q10, .ref q11, .ref q12, .ref q13, .ref q14, .ref q15, .ref q16, .ref q17, .null, .null, .null, .null]) A s.heap H locs := hH
  first | refine lv_aload_n hx hb dM_init_148 rfl (lv_at hl 0 rfl) ?_ | refine lv_aload_nN hx hb dM_init_148 rfl (lv_at hl 0 rfl) ?_
  refine lv_bipush (v := 100) hx hb dM_init_149 (by decide) ?_
  refine mNA (n := 18) (a0 := (100, .inl (fun _ => 0))) (at' := .boolean) hC hA hH (by (try simp only [List.length_set]); rfl) (by decide) wr_boolean rfl (fun _ => rfl) (fun _ => rfl) (by decide) (by decide) (by decide) (Nat.le_of_ble_eq_true rfl) (Nat.le_of_ble_eq_true rfl) dM_init_151 wf_M_65 rfl hnm rfl (fun _ => rfl) (fun _ => rfl) dM_init_153 (fun q18 c18 H locs hC hH => ?_)
  have hH : gH D (mB a 19) (_, _, [.int 0, .int 0, .int 0, .int 0, .int 0, .int 0, .int 0, .ref q0, .ref q1, .ref q2, .ref q3, .ref q4, .ref q5, .ref q6, .ref q7, .ref q8, .ref q9, .ref q10, .ref q11, .ref q12, .ref q13, .ref q14, .ref q15, .ref q16, .ref q17, .ref q18, .null, .null, .null]) A s.heap H locs := hH
  first | refine lv_aload_n hx hb dM_init_156 rfl (lv_at hl 0 rfl) ?_ | refine lv_aload_nN hx hb dM_init_156 rfl (lv_at hl 0 rfl) ?_
  refine lv_bipush (v := 100) hx hb dM_init_157 (by decide) ?_
  refine mNA (n := 19) (a0 := (100, .inl (fun _ => 0))) (at' := .boolean) hC hA hH (by (try simp only [List.length_set]); rfl) (by decide) wr_boolean rfl (fun _ => rfl) (fun _ => rfl) (by decide) (by decide) (by decide) (Nat.le_of_ble_eq_true rfl) (Nat.le_of_ble_eq_true rfl) dM_init_159 wf_M_69 rfl hnm rfl (fun _ => rfl) (fun _ => rfl) dM_init_161 (fun q19 c19 H locs hC hH => ?_)
  have hH : gH D (mB a 20) (_, _, [.int 0, .int 0, .int 0, .int 0, .int 0, .int 0, .int 0, .ref q0, .ref q1, .ref q2, .ref q3, .ref q4, .ref q5, .ref q6, .ref q7, .ref q8, .ref q9, .ref q10, .ref q11, .ref q12, .ref q13, .ref q14, .ref q15, .ref q16, .ref q17, .ref q18, .ref q19, .null, .null]) A s.heap H locs := hH
  first | refine lv_aload_n hx hb dM_init_164 rfl (lv_at hl 0 rfl) ?_ | refine lv_aload_nN hx hb dM_init_164 rfl (lv_at hl 0 rfl) ?_
  refine lv_bipush (v := 100) hx hb dM_init_165 (by decide) ?_
  refine mNA (n := 20) (a0 := (100, .inr (.inl (fun _ => 0)))) (at' := .long) hC hA hH (by (try simp only [List.length_set]); rfl) (by decide) wr_long rfl (fun _ => rfl) (fun _ => rfl) (by decide) (by decide) (by decide) (Nat.le_of_ble_eq_true rfl) (Nat.le_of_ble_eq_true rfl) dM_init_167 wf_M_72 rfl hnm rfl (fun _ => rfl) (fun _ => rfl) dM_init_169 (fun q20 c20 H locs hC hH => ?_)
  have hH : gH D (mB a 21) (_, _, [.int 0, .int 0, .int 0, .int 0, .int 0, .int 0, .int 0, .ref q0, .ref q1, .ref q2, .ref q3, .ref q4, .ref q5, .ref q6, .ref q7, .ref q8, .ref q9, .ref q10, .ref q11, .ref q12, .ref q13, .ref q14, .ref q15, .ref q16, .ref q17, .ref q18, .ref q19, .ref q20, .null]) A s.heap H locs := hH
  first | refine lv_aload_n hx hb dM_init_172 rfl (lv_at hl 0 rfl) ?_ | refine lv_aload_nN hx hb dM_init_172 rfl (lv_at hl 0 rfl) ?_
  refine lv_bipush (v := 100) hx hb dM_init_173 (by decide) ?_
  refine mNA (n := 21) (a0 := (100, .inr (.inl (fun _ => 0)))) (at' := .long) hC hA hH (by (try simp only [List.length_set]); rfl) (by decide) wr_long rfl (fun _ => rfl) (fun _ => rfl) (by decide) (by decide) (by decide) (Nat.le_of_ble_eq_true rfl) (Nat.le_of_ble_eq_true rfl) dM_init_175 wf_M_75 rfl hnm rfl (fun _ => rfl) (fun _ => rfl) dM_init_177 (fun q21 c21 H locs hC hH => ?_)
  have hH : gH D (mB a 22) (_, _, [.int 0, .int 0, .int 0, .int 0, .int 0, .int 0, .int 0, .ref q0, .ref q1, .ref q2, .ref q3, .ref q4, .ref q5, .ref q6, .ref q7, .ref q8, .ref q9, .ref q10, .ref q11, .ref q12, .ref q13, .ref q14, .ref q15, .ref q16, .ref q17, .ref q18, .ref q19, .ref q20, .ref q21]) A s.heap H locs := hH
  first | refine lv_aload_n hx hb dM_init_180 rfl (lv_at hl 0 rfl) ?_ | refine lv_aload_nN hx hb dM_init_180 rfl (lv_at hl 0 rfl) ?_
  refine lv_iload_n hx hb dM_init_181 rfl (lv_at hl 1 rfl) ?_
  refine lv_iconst (v := 1) hx hb dM_init_182 (by decide) ?_
  refine lv_iconst (v := 4) hx hb dM_init_183 (by decide) ?_
  refine gcTi hC.fix hl.1 (m_between _ _ _) kM_78 ⟨Nat.le_of_ble_eq_true rfl, Nat.le_of_ble_eq_true rfl⟩ dM_init_184 ⟨Nat.le_of_ble_eq_true rfl, Nat.le_of_ble_eq_true rfl⟩ rfl (Nat.le_of_ble_eq_true rfl) (fun r hr1 => ?_)
  rw [zBtw_near (by decide)] at hr1
  subst hr1
  refine mPut hC hH (by (try simp only [List.length_set]); rfl) (k := 0) (by decide) wf_M_82 rfl hnm rfl rfl rfl dM_init_187 (fun H locs hH => ?_)
  have hH : gH D (mB a 22) (_, _, [.int (zNear mo 1 4), .int 0, .int 0, .int 0, .int 0, .int 0, .int 0, .ref q0, .ref q1, .ref q2, .ref q3, .ref q4, .ref q5, .ref q6, .ref q7, .ref q8, .ref q9, .ref q10, .ref q11, .ref q12, .ref q13, .ref q14, .ref q15, .ref q16, .ref q17, .ref q18, .ref q19, .ref q20, .ref q21]) A s.heap H locs := hH
  first | refine lv_aload_n hx hb dM_init_190 rfl (lv_at hl 0 rfl) ?_ | refine lv_aload_nN hx hb dM_init_190 rfl (lv_at hl 0 rfl) ?_
  refine lv_iload_n hx hb dM_init_191 rfl (lv_at hl 2 rfl) ?_
  refine lv_iconst (v := 0) hx hb dM_init_192 (by decide) ?_
  refine lv_ldc hx hb hown (hts _ wq_M_86) dM_init_193 ?_
  refine gcTi hC.fix hl.1 (m_between _ _ _) kM_78 ⟨Nat.le_of_ble_eq_true rfl, Nat.le_of_ble_eq_true rfl⟩ dM_init_195 ⟨Nat.le_of_ble_eq_true rfl, Nat.le_of_ble_eq_true rfl⟩ rfl (Nat.le_of_ble_eq_true rfl) (fun r hr1 => ?_)
  rw [zBtw_near (by decide)] at hr1
  subst hr1
  refine mPut hC hH (by (try simp only [List.length_set]); rfl) (k := 1) (by decide) wf_M_87 rfl hnm rfl rfl rfl dM_init_198 (fun H locs hH => ?_)
  have hH : gH D (mB a 22) (_, _, [.int (zNear mo 1 4), .int (zNear bo 0 100000), .int 0, .int 0, .int 0, .int 0, .int 0, .ref q0, .ref q1, .ref q2, .ref q3, .ref q4, .ref q5, .ref q6, .ref q7, .ref q8, .ref q9, .ref q10, .ref q11, .ref q12, .ref q13, .ref q14, .ref q15, .ref q16, .ref q17, .ref q18, .ref q19, .ref q20, .ref q21]) A s.heap H locs := hH
  first | refine lv_aload_n hx hb dM_init_201 rfl (lv_at hl 0 rfl) ?_ | refine lv_aload_nN hx hb dM_init_201 rfl (lv_at hl 0 rfl) ?_
  refine lv_iload_n hx hb dM_init_202 rfl (lv_at hl 3 rfl) ?_
  refine lv_iconst (v := 1) hx hb dM_init_203 (by decide) ?_
  refine lv_sipush (v := 1000) hx hb dM_init_204 (by decide) ?_
  refine gcTi hC.fix hl.1 (m_between _ _ _) kM_78 ⟨Nat.le_of_ble_eq_true rfl, Nat.le_of_ble_eq_true rfl⟩ dM_init_207 ⟨Nat.le_of_ble_eq_true rfl, Nat.le_of_ble_eq_true rfl⟩ rfl (Nat.le_of_ble_eq_true rfl) (fun r hr1 => ?_)
  rw [zBtw_near (by decide)] at hr1
  subst hr1
  refine mPut hC hH (by (try simp only [List.length_set]); rfl) (k := 2) (by decide) wf_M_90 rfl hnm rfl rfl rfl dM_init_210 (fun H locs hH => ?_)
  have hH : gH D (mB a 22) (_, _, [.int (zNear mo 1 4), .int (zNear bo 0 100000), .int (zNear id 1 1000), .int 0, .int 0, .int 0, .int 0, .ref q0, .ref q1, .ref q2, .ref q3, .ref q4, .ref q5, .ref q6, .ref q7, .ref q8, .ref q9, .ref q10, .ref q11, .ref q12, .ref q13, .ref q14, .ref q15, .ref q16, .ref q17, .ref q18, .ref q19, .ref q20, .ref q21]) A s.heap H locs := hH
  generalize hka : va_up _ 28 q21 = ka at hH
  generalize hcl : va_up _ 28 c21 = cl at hH hC
  have e7 : ka 7 = q0 ∧ ka 8 = q1 ∧ ka 9 = q2 ∧ ka 10 = q3 ∧ ka 11 = q4 ∧ ka 12 = q5 ∧ ka 13 = q6 ∧ ka 14 = q7 ∧ ka 15 = q8 ∧ ka 16 = q9 ∧ ka 17 = q10 ∧ ka 18 = q11 ∧ ka 19 = q12 ∧ ka 20 = q13 ∧ ka 21 = q14 ∧ ka 22 = q15 ∧ ka 23 = q16 ∧ ka 24 = q17 ∧ ka 25 = q18 ∧ ka 26 = q19 ∧ ka 27 = q20 ∧ ka 28 = q21 := by subst hka; exact ⟨rfl, rfl, rfl, rfl, rfl, rfl, rfl, rfl, rfl, rfl, rfl, rfl, rfl, rfl, rfl, rfl, rfl, rfl, rfl, rfl, rfl, rfl⟩
  have hJ : gH D (mR (a, ka, cl)) (cs0 (zNear mo 1 4) (zNear bo 0 100000) (zNear id 1 1000)) A s.heap H locs := by
    obtain ⟨LL, f, hI, hP, hD, hS⟩ := hH
    refine ⟨LL, f, ⟨_, Rel0 _ _ _, ⟨hI.1.1, hI.1.2.trans ?_⟩, hI.2.1, hI.2.2⟩, hP, hD, hS⟩
    obtain ⟨e0, e1, e2, e3, e4, e5, e6, e7, e8, e9, e10, e11, e12, e13, e14, e15, e16, e17, e18, e19, e20, e21⟩ := e7
    show (Sum.inr (4, _) : va_E) = Sum.inr (4, [Value.int _, Value.int _, Value.int _, Value.int _, Value.int _, Value.int _, Value.int _, Value.ref (ka 7), Value.ref (ka 8), Value.ref (ka 9), Value.ref (ka 10), Value.ref (ka 11), Value.ref (ka 12), Value.ref (ka 13), Value.ref (ka 14), Value.ref (ka 15), Value.ref (ka 16), Value.ref (ka 17), Value.ref (ka 18), Value.ref (ka 19), Value.ref (ka 20), Value.ref (ka 21), Value.ref (ka 22), Value.ref (ka 23), Value.ref (ka 24), Value.ref (ka 25), Value.ref (ka 26), Value.ref (ka 27), Value.ref (ka 28)])
    rw [e0, e1, e2, e3, e4, e5, e6, e7, e8, e9, e10, e11, e12, e13, e14, e15, e16, e17, e18, e19, e20, e21]
    rfl
  have hC2 : gX RX4 (mk_tys (a, ka, cl)) D p s m ([.ref a, .int mo, .int bo, .int id] : List Value).toArray c bM_init 4 := hC
  exact W.vret hx hb hr (fun t ht hW => ⟨⟨((a, ka, cl), cs0 (zNear mo 1 4) (zNear bo 0 100000) (zNear id 1 1000)), rfl, ⟨rfl, rfl⟩, (gH.B (tys := mk_tys (a, ka, cl)) hC2 hJ ht hW).1⟩, (gH.B hC2 hJ ht hW).2⟩) hJ.L dM_init_213
end MI0
end
section
/-! TWO POOLS side by side: what one method does to its own leaves the other as it is -/
def g2 {σ τ : Type} (D : va_G) (I : σ → List Nat → (Nat → va_E) → Prop) (u : σ) (J : τ → List Nat → (Nat → va_E) → Prop) (w : τ) (A : Nat → Prop) (H0 H : Heap) (locs : List Loc) : Prop := ∃ (L1 : List Nat) (f1 : Nat → va_E) (L2 : List Nat) (f2 : Nat → va_E), I u L1 f1 ∧ J w L2 f2 ∧ va_P D vwCl (va_pl L1 f1) H ∧ va_D A (va_pl L1 f1) ∧ va_P D vwCl (va_pl L2 f2) H ∧ va_D A (va_pl L2 f2) ∧ (∀ q, q ∈ L1 → q ∉ L2) ∧ va_S A H0 H locs
section TW
variable {p : Program} {l : Launch} {e : Env} {R : Room} {s : State} {m : MethodId} {args : Array Value} {below : List Frame} {meth : Method} {c : Code} {H : Heap} {locs : List Loc} {cells slots : Nat} {Q : State → Prop}
variable {cc : ByteArray} {pc : Nat} {ls : Array Slot} {rest st : List Value} {D : va_G} {A : Nat → Prop} {tys : List (ClassId × FieldType)} {H0 : Heap} {own : String} {nL : Nat} {σ τ : Type} {I : σ → List Nat → (Nat → va_E) → Prop} {u : σ} {J : τ → List Nat → (Nat → va_E) → Prop} {w : τ} {y : MethodName} {b : ByteArray} {n dp idx mc ms : Nat} {r : Option FieldType} {av : List Value} {a ci : Nat} {q : vw_C}
theorem g2.swap (h : g2 D I u J w A H0 H locs) : g2 D J w I u A H0 H locs := by
  obtain ⟨L1, f1, L2, f2, h1, h2, h3, h4, h5, h6, h7, h8⟩ := h
  exact ⟨L2, f2, L1, f1, h2, h1, h5, h6, h3, h4, fun q hq hq2 => h7 q hq2 hq, h8⟩
theorem g2.fst (h : g2 D I u J w A H0 H locs) : gH D I u A H0 H locs := by
  obtain ⟨L1, f1, L2, f2, h1, h2, h3, h4, h5, h6, h7, h8⟩ := h
  exact ⟨L1, f1, h1, h3, h4, h8⟩
/-- reads only -/
theorem g2Ri {post : Int32 → Prop} (hC : gX own tys D p s m args c cc nL) (hls : ls.size = nL) (hH : g2 D I u J w A H0 H locs) (M : ∀ LL f sz, I u LL f → Met l y (wz y b n r) (rmL dp 0 0) (gP D tys LL f sz (.ref a :: av)) (vp_Si post) 0 0 (fun _ => False)) (ha : ∀ LL f, I u LL f → ∃ fs, a ∈ LL ∧ f a = .inr (ci, fs)) (hc : vwCl[ci]? = some q) (hq : q.1 = y.cls) (hk : gKV own idx y b n r av.length) (hR : dp + 1 ≤ R.frames ∧ 8 + (n + 11) + 34 * dp ≤ R.locals) (hdg : decode cc pc = .ok (.invokevirtual idx, 3)) (hcs : cells ≤ R.cells ∧ slots ≤ R.slots) (hst : st = av.reverse ++ .ref a :: rest) (hcat : (rest.map fun v => v.category).sum ≤ 8) (kk : ∀ v : Int32, post v → W p l e R s m args below meth c H locs cells slots Q (F0 m (pc + 3) ls (.int v :: rest))) : W p l e R s m args below meth c H locs cells slots Q (F0 m pc ls st) := by
  obtain ⟨LL, f, hI, hP, hD, hS⟩ := hH.fst
  obtain ⟨fs, ha1, ha2⟩ := ha LL f hI
  have hr := pw_recv hC.2.2.2.2.1 hP ha1 ha2 hc
  rw [hq] at hr
  exact vp_callSi (W.runV (C := y.cls) (As := av) hC.fix (M LL f H.size hI) ⟨hk.1.B hC.2.2.1 hR, hC.2.2.1 _ hk.2.1, hC.2.2.1 _ hk.2.2⟩ ⟨gP_blind, hr, fun U hU hW => gP_pre hC.2.2.2.2.1 hP hD hU hW⟩ rfl rfl hls hst (lv_room hcat) hdg hcs) kk
theorem g2Rl {post : Int64 → Prop} (hC : gX own tys D p s m args c cc nL) (hls : ls.size = nL) (hH : g2 D I u J w A H0 H locs) (M : ∀ LL f sz, I u LL f → Met l y (wz y b n r) (rmL dp 0 0) (gP D tys LL f sz (.ref a :: av)) (vp_Sl post) 0 0 (fun _ => False)) (ha : ∀ LL f, I u LL f → ∃ fs, a ∈ LL ∧ f a = .inr (ci, fs)) (hc : vwCl[ci]? = some q) (hq : q.1 = y.cls) (hk : gKV own idx y b n r av.length) (hR : dp + 1 ≤ R.frames ∧ 8 + (n + 11) + 34 * dp ≤ R.locals) (hdg : decode cc pc = .ok (.invokevirtual idx, 3)) (hcs : cells ≤ R.cells ∧ slots ≤ R.slots) (hst : st = av.reverse ++ .ref a :: rest) (hcat : (rest.map fun v => v.category).sum ≤ 8) (kk : ∀ v : Int64, post v → W p l e R s m args below meth c H locs cells slots Q (F0 m (pc + 3) ls (.long v :: rest))) : W p l e R s m args below meth c H locs cells slots Q (F0 m pc ls st) := by
  obtain ⟨LL, f, hI, hP, hD, hS⟩ := hH.fst
  obtain ⟨fs, ha1, ha2⟩ := ha LL f hI
  have hr := pw_recv hC.2.2.2.2.1 hP ha1 ha2 hc
  rw [hq] at hr
  exact vp_callSl (W.runV (C := y.cls) (As := av) hC.fix (M LL f H.size hI) ⟨hk.1.B hC.2.2.1 hR, hC.2.2.1 _ hk.2.1, hC.2.2.1 _ hk.2.2⟩ ⟨gP_blind, hr, fun U hU hW => gP_pre hC.2.2.2.2.1 hP hD hU hW⟩ rfl rfl hls hst (lv_room hcat) hdg hcs) kk
/-- behind a call that wrote the first pool -/
theorem g2.back {L1 : List Nat} {f1 : Nat → va_E} {L2 : List Nat} {f2 : Nat → va_E} {u' : σ} {t : State} {H1 : Heap} {locs1 : List Loc} (hP1 : va_P D vwCl (va_pl L1 f1) H) (hw : J w L2 f2) (hP2 : va_P D vwCl (va_pl L2 f2) H) (hD2 : va_D A (va_pl L2 f2)) (hdis : ∀ q, q ∈ L1 → q ∉ L2) (hB : gB D tys I (va_A (va_pl L1 f1) H.size) u' t) (ht : t.heap = H1) (hk : ∀ q : Nat, q < H.size → ¬ va_A (va_pl L1 f1) H.size q → H1[q]? = H[q]?) (hF : ∀ q, va_A (va_pl L1 f1) H.size q → A q) (hS : va_S A H0 H1 locs1) : g2 D I u' J w A H0 H1 locs1 := by
  obtain ⟨L3, f3, h1, h2, h3, h4⟩ := hB
  have lt2 : ∀ q, q ∈ L2 → q < H.size := fun q hq => va_pl_lt (X := []) hP2 hq
  refine ⟨L3, f3, L2, f2, h1, hw, by rw [← ht]; exact h2, h4.weaken (fun _ q _ h => hF q.1 h), hP2.kept (fun k z hz => ?_), hD2, fun z hz hz2 => ?_, hS⟩
  · obtain ⟨b2, hb2, eb⟩ := List.mem_map.mp (List.mem_of_getElem? hz)
    cases eb
    refine hk b2 (lt2 b2 hb2) (fun hA2 => ?_)
    rcases pw_A.mp hA2 with h | h
    · exact hdis b2 h hb2
    · have := lt2 b2 hb2
      omega
  · obtain ⟨k9, hk9⟩ := pw_at (f := f3) hz rfl
    rcases pw_A.mp (h4.2 k9 _ hk9) with h | h
    · exact hdis z h hz2
    · have := lt2 z hz2
      have h : H.size ≤ z := h
      omega
theorem g2Wi {post : Int32 → σ → Prop} (hC : gX own tys D p s m args c cc nL) (hls : ls.size = nL) (hA : ∀ q, H0.size ≤ q → A q) (hH : g2 D I u J w A H0 H locs) (M : ∀ LL f sz, I u LL f → Met l y (wz y b n r) (rmL dp mc ms) (gP D tys LL f sz (.ref a :: av)) (va_Qi post (gB D tys I (va_A (va_pl LL f) sz)) (va_A (va_pl LL f) sz)) mc ms (va_A (va_pl LL f) sz)) (ha : ∀ LL f, I u LL f → ∃ fs, a ∈ LL ∧ f a = .inr (ci, fs)) (hc : vwCl[ci]? = some q) (hq : q.1 = y.cls) (hk : gKV own idx y b n r av.length) (hR : dp + 1 ≤ R.frames ∧ 8 + (n + 11) + 34 * dp ≤ R.locals) (hdg : decode cc pc = .ok (.invokevirtual idx, 3)) (hcs : cells + mc ≤ R.cells ∧ slots + ms ≤ R.slots) (hst : st = av.reverse ++ .ref a :: rest) (hcat : (rest.map fun v => v.category).sum ≤ 8) (kk : ∀ (v : Int32) (u' : σ) (H1 : Heap) (locs1 : List Loc), post v u' → g2 D I u' J w A H0 H1 locs1 → W p l e R s m args below meth c H1 locs1 (cells + mc) (slots + ms) Q (F0 m (pc + 3) ls (.int v :: rest))) : W p l e R s m args below meth c H locs cells slots Q (F0 m pc ls st) := by
  obtain ⟨L1, f1, L2, f2, hI, hw, hP, hD, hP2, hD2, hdis, hS⟩ := hH
  have hF := gH.free hD hS hA
  obtain ⟨fs, ha1, ha2⟩ := ha L1 f1 hI
  have hr := pw_recv hC.2.2.2.2.1 hP ha1 ha2 hc
  rw [hq] at hr
  exact va_calli (va_runV (C := y.cls) (As := av) hC.fix (M L1 f1 H.size hI) ⟨hk.1.B hC.2.2.1 hR, hC.2.2.1 _ hk.2.1, hC.2.2.1 _ hk.2.2⟩ ⟨gP_blind, hr, fun U hU hW => gP_pre hC.2.2.2.2.1 hP hD hU hW⟩ rfl rfl hls hst (lv_room hcat) hdg hcs) hS (fun q _ h => hF q h) hF (fun v u' t H1 locs1 ht hvm hp hB hz hk1 hS1 => kk v u' H1 locs1 hp (g2.back hP hw hP2 hD2 hdis hB ht hk1 hF hS1))
end TW
end
section
/-! THE CLAIM OUT OF ONE WALK OF THE LAW'S BODY. Your part is whole_start (and what it stands on); all else here is the same for every law, but numbers. -/
def R_law : String := "WorkerRowsLaw"
def lw_P (b : Addr) (xs : List Int32) (args : Array Value) (s : State) : Prop := args = #[.ref b] ∧ s.IntsAt b xs ∧ xs.length ≤ 2563 ∧ (Jvm.Cond.and given_1 narrow_1).before args s = true
def lw_Q (_ : Array Value) (s : State) (o : Outcome) (t : State) : Prop := o = .returned (some (.int 1)) ∧ Framed s o t [] 600000 7302250
def lw_Z (below : List Frame) (a : Array Value) (s : State) : State → Prop := fun t => ∃ o, t.status = .running ∧ Ended t below o ∧ lw_Q a s o t
/-- the law's own end, with 1 on the stack, nothing written that was there before, its room as the claim has it -/
theorem lw_ret {p : Program} {l : Launch} {e : Env} {s : State} {m : MethodId} {below : List Frame} {meth : Method} {c : Code} {b : Nat} (hx : p.tables.exec = Jvm.exec) (hb : c.code = code) (hr : meth.sig.returnType = ret) (hlocks : meth.locks = false) {pc : Nat} {H : Heap} {ls : Array Slot} (hdg : decode code pc = .ok (.ireturn, 1)) : W p l e room_1 s m #[Value.ref b] below meth c H [] 600000 7302250 (lw_Z below #[Value.ref b] s) (F0 m pc ls [.int 1]) := by
  intro T hT X
  obtain ⟨fs, hret, hrun, hended, hW, hframe⟩ := X.leave (v := some (.int 1)) (hlocks := hlocks) (fun h => by rw [hr] at h; cases h)
  have hmeth' : T.vm.method? m = some meth := X.method'
  refine ⟨T.setFrames fs, ?_, .returned (some (.int 1)), hrun, hended, rfl, ⟨_, rfl⟩, hW, hframe⟩
  jvm_step X.here [X.here.top, hx, hb, hdg, hmeth', hr, ret, narrow_b1]
  (try refine ⟨rfl, ?_⟩); (try refine ⟨rfl, ?_⟩)
  first | (intro acts; rw [hret _ acts rfl rfl rfl]) | rw [hret _ _ rfl rfl rfl]
  exact Steps.refl _
/-- what holds at the law's entry: the machine, the code, the tables' words (any of lw_tbl by 'hts w (by decide +kernel)'), the script of L ints xs at the cell b, what the Statement gives of the start (any of its parts by flat_of_before) -/
def lw_At (p : Program) (s : State) (m : MethodId) (meth : Method) (c : Code) (b L : Nat) (xs : Nat → Int32) : Prop :=
  p.tables.exec = Jvm.exec ∧ c.code = code ∧ meth.sig.returnType = ret ∧ c.maxLocals = 4 ∧ s.vm.findClass R_law = some m.cls ∧ (∀ w ∈ lw_tbl, w.before #[Value.ref b] s = true) ∧ va_X b L xs s s.heap ∧ b < s.heap.size ∧ meth.locks = false ∧ (Jvm.Cond.and given_1 narrow_1).before #[Value.ref b] s = true
end
section
/-! THE LAW'S OWN: its script, its two objects side by side -/
section LW
variable {p : Program} {l : Launch} {e : Env} {s : State} {m : MethodId} {below : List Frame} {meth : Method} {c : Code} {H : Heap} {locs : List Loc} {cells slots : Nat} {Q : State → Prop}
variable {pc : Nat} {ls : Array Slot} {rest st : List Value} {D : va_G} {b L : Nat} {xs : Nat → Int32} {k : ck_F} {km : mk_F} {d : ck_A} {x : cs_S}
abbrev lA (s : State) : Nat → Prop := fun q => s.heap.size ≤ q
def lCx (p : Program) (s : State) (m : MethodId) (c : Code) (b L : Nat) (xs : Nat → Int32) (D : va_G) (k : ck_F) (km : mk_F) : Prop := gX RL (ck_tys k) D p s m #[Value.ref b] c bL_law 4 ∧ gX RL (mk_tys km) D p s m #[Value.ref b] c bL_law 4 ∧ va_X b L xs s s.heap ∧ b < s.heap.size ∧ L ≤ 2563
theorem g2.S {σ τ : Type} {I : σ → List Nat → (Nat → va_E) → Prop} {u : σ} {J : τ → List Nat → (Nat → va_E) → Prop} {w : τ} {A : Nat → Prop} {H0 : Heap} (h : g2 D I u J w A H0 H locs) : va_S A H0 H locs := by
  obtain ⟨_, _, _, _, _, _, _, _, _, _, _, h8⟩ := h
  exact h8
theorem l_sld {t : Nat} {v : Int32} (hx : p.tables.exec = Jvm.exec) (hb : c.code = bL_law) (hX : va_X b L xs s s.heap) (hbl : b < s.heap.size) (hL : L ≤ 2563) (hS : va_S (lA s) s.heap H locs) (hv : v = nI t) (ht : t < L) (hdg : decode bL_law pc = .ok (.iaload, 1)) (kk : W p l e room_1 s m #[Value.ref b] below meth c H locs cells slots Q (F0 m (pc + 1) ls (.int (xs t) :: rest))) : W p l e room_1 s m #[Value.ref b] below meth c H locs cells slots Q (F0 m pc ls (.int v :: .ref b :: rest)) := by
  subst hv
  refine va_sld hx hb hX hbl (Nat.not_le.mpr hbl) hS (vp_in_nI ht (by omega)) hdg ?_
  rw [nI_clamp (by omega)]
  exact kk

/-! cell -/
def zCell (xs : Nat → Int32) (L j : Nat) : Int32 := if j < L then xs j else 0
def lP0 (b L : Nat) (xs : Nat → Int32) (j : Nat) : Array Value → State → Prop := va_Pc [.ref b, .int (nI j)] (fun U => va_X b L xs U U.heap ∧ b < U.heap.size)
theorem lP0_blind {j : Nat} : FrameBlind (lP0 b L xs j) := fun a U g mk q => by
  obtain ⟨q0, q1, q2⟩ := q
  exact ⟨q0, va_X.moved (u := U) (U := U.calling g mk a) (Vm.Alike.refl U.vm) q1, q2⟩
set_option maxHeartbeats 600000 in
set_option maxRecDepth 100000 in
theorem l_cell (hL : L ≤ 2563) (j : Nat) (hj : j < 3) : Met l yL_cell (wz yL_cell bL_cell 2 (some .int)) (rmL 0 0 0) (lP0 b L xs j) (vp_Si (fun r => r = zCell xs L j)) 0 0 (fun _ => False) := by
  refine Met.ofW (cc := bL_cell) (maxL := 2) (ret := some .int) (by decide) rfl ?_
  intro p e s m args below meth c s₁ B hml hv
  obtain ⟨rfl, hX, hbl⟩ := hv
  rw [lg_entry_eq]
  have hx := B.exec
  have hb := B.bytes
  have hr := B.returns
  have hlk := B.notSynchronized
  have hS : va_S (fun _ => False) s.heap s.heap [] := va_S.rf
  have hl := lv_entry ([.ref b, .int (nI j)]) (n := 2) (Nat.le_of_ble_eq_true rfl)
  generalize (lg_sl ([.ref b, .int (nI j)]) ++ List.replicate (2 - (lg_sl ([.ref b, .int (nI j)])).length) Slot.unset).toArray = ls at hl ⊢
  have hl : lv_has ls 2 [(0, _), (1, _)] := hl
  refine lv_iload_n hx hb dL_cell_0 rfl (lv_at hl 1 rfl) ?_
  first | refine lv_aload_n hx hb dL_cell_1 rfl (lv_at hl 0 rfl) ?_ | refine lv_aload_nN hx hb dL_cell_1 rfl (lv_at hl 0 rfl) ?_
  refine va_slen hx hb hX hbl (fun h => h) hS dL_cell_2 ?_
  refine lv_icmp_ge  (tgt := 12) hx hb dL_cell_3 (by decide) (fun h1 => ?_) (fun h1 => ?_)
  · have h2 : ¬ j < L := fun q => nI_ge q (by omega) h1
    refine lv_iconst (v := 0) hx hb dL_cell_12 (by decide) ?_
    exact W.zret hx hb hr rfl (fun t ht hW => ⟨_, rfl, (if_neg h2).symm, ht⟩) (fun q h => by cases h) dL_cell_13
  · have h2 : j < L := Nat.not_le.mp fun q => h1 (nI_le q (by omega))
    first | refine lv_aload_n hx hb dL_cell_6 rfl (lv_at hl 0 rfl) ?_ | refine lv_aload_nN hx hb dL_cell_6 rfl (lv_at hl 0 rfl) ?_
    refine lv_iload_n hx hb dL_cell_7 rfl (lv_at hl 1 rfl) ?_
    refine va_sld hx hb hX hbl (fun h => h) hS (vp_in_nI h2 (by omega)) dL_cell_8 ?_
    rw [nI_clamp (by omega)]
    refine lv_goto (tgt := 13) hx hb dL_cell_9 (by decide) ?_
    exact W.zret hx hb hr rfl (fun t ht hW => ⟨_, rfl, (if_pos h2).symm, ht⟩) (fun q h => by cases h) dL_cell_13
theorem l_cc (hF : CallFix p m c bL_law 4 s #[Value.ref b] wA RL) (hls : ls.size = 4) (hX : va_X b L xs s s.heap) (hbl : b < s.heap.size) (hL : L ≤ 2563) (hS : va_S (lA s) s.heap H locs) (j : Nat) (hj : j < 3) (hcs : cells ≤ room_1.cells ∧ slots ≤ room_1.slots) (hdg : decode bL_law pc = .ok (.invokestatic 9, 3)) (hcat : (rest.map fun v => v.category).sum ≤ 8) (kk : W p l e room_1 s m #[Value.ref b] below meth c H locs cells slots Q (F0 m (pc + 3) ls (.int (zCell xs L j) :: rest))) : W p l e room_1 s m #[Value.ref b] below meth c H locs cells slots Q (F0 m pc ls (.int (nI j) :: .ref b :: rest)) :=
  vp_callSi (W.runS (As := [.ref b, .int (nI j)]) hF (l_cell hL j hj) ⟨kL_9.1.B hF.2.2.2.2 ⟨Nat.le_of_ble_eq_true rfl, Nat.le_of_ble_eq_true rfl⟩, hF.2.2.2.2 _ kL_9.2⟩ ⟨lP0_blind, fun U hU hW => ⟨rfl, by rw [hU]; exact (hX.kept (hS.2.1 b hbl (Nat.not_le.mpr hbl))).moved hW.alike, by rw [hU]; exact Nat.lt_of_lt_of_le hbl hS.1⟩⟩ rfl rfl hls rfl (lv_room hcat) hdg hcs) (fun v hv => by subst hv; exact kk)
end LW
end
