section
-- ===== PART A: goes FIRST, ahead of the names: the tables' words, and 'selects' of the private methods out of them =====
/-- a private method of a class that the tables say can be made, by its rows of tables_1 -/
def lw_okq (q : MethodName × Nat) : Prop := (q.1.cls ≠ "java/lang/invoke/MethodHandle" ∧ q.1.cls ≠ "java/lang/invoke/VarHandle") ∧ Cond.instantiable q.1.cls q.2 ∈ tables_1 ∧ Cond.privateMethod q.1 ∈ tables_1 ∧ Cond.instanceMethod q.1 ∈ tables_1
theorem lw_p0 : lw_okq (⟨"PriorityKernel", "leastFree", "()LPriorityKernel$Task;"⟩, 8) := ⟨⟨by decide +kernel, by decide +kernel⟩, List.mem_of_getElem? (i := 7) (by decide +kernel), List.mem_of_getElem? (i := 137) (by decide +kernel), List.mem_of_getElem? (i := 138) (by decide +kernel)⟩
theorem lw_p1 : lw_okq (⟨"PriorityKernel", "makeReady", "(LPriorityKernel$Task;I)V"⟩, 8) := ⟨⟨by decide +kernel, by decide +kernel⟩, List.mem_of_getElem? (i := 7) (by decide +kernel), List.mem_of_getElem? (i := 141) (by decide +kernel), List.mem_of_getElem? (i := 142) (by decide +kernel)⟩
theorem lw_p2 : lw_okq (⟨"PriorityKernel", "runner", "()LPriorityKernel$Task;"⟩, 8) := ⟨⟨by decide +kernel, by decide +kernel⟩, List.mem_of_getElem? (i := 7) (by decide +kernel), List.mem_of_getElem? (i := 157) (by decide +kernel), List.mem_of_getElem? (i := 158) (by decide +kernel)⟩
theorem lw_p3 : lw_okq (⟨"PriorityKernel", "foremost", "(II)LPriorityKernel$Task;"⟩, 8) := ⟨⟨by decide +kernel, by decide +kernel⟩, List.mem_of_getElem? (i := 7) (by decide +kernel), List.mem_of_getElem? (i := 161) (by decide +kernel), List.mem_of_getElem? (i := 162) (by decide +kernel)⟩
theorem lw_p4 : lw_okq (⟨"PriorityKernel", "workOutEffective", "()V"⟩, 8) := ⟨⟨by decide +kernel, by decide +kernel⟩, List.mem_of_getElem? (i := 7) (by decide +kernel), List.mem_of_getElem? (i := 165) (by decide +kernel), List.mem_of_getElem? (i := 166) (by decide +kernel)⟩
theorem lw_p5 : lw_okq (⟨"PriorityKernel", "inheritOnce", "()Z"⟩, 8) := ⟨⟨by decide +kernel, by decide +kernel⟩, List.mem_of_getElem? (i := 7) (by decide +kernel), List.mem_of_getElem? (i := 169) (by decide +kernel), List.mem_of_getElem? (i := 170) (by decide +kernel)⟩
theorem lw_p6 : lw_okq (⟨"PriorityKernel", "heirOf", "(LPriorityKernel$Task;)I"⟩, 8) := ⟨⟨by decide +kernel, by decide +kernel⟩, List.mem_of_getElem? (i := 7) (by decide +kernel), List.mem_of_getElem? (i := 173) (by decide +kernel), List.mem_of_getElem? (i := 174) (by decide +kernel)⟩
theorem lw_p7 : lw_okq (⟨"PriorityKernel", "startTurn", "(LPriorityKernel$Task;)V"⟩, 8) := ⟨⟨by decide +kernel, by decide +kernel⟩, List.mem_of_getElem? (i := 7) (by decide +kernel), List.mem_of_getElem? (i := 181) (by decide +kernel), List.mem_of_getElem? (i := 182) (by decide +kernel)⟩
theorem lw_p8 : lw_okq (⟨"PriorityKernel", "take", "(LPriorityKernel$Task;I)V"⟩, 8) := ⟨⟨by decide +kernel, by decide +kernel⟩, List.mem_of_getElem? (i := 7) (by decide +kernel), List.mem_of_getElem? (i := 189) (by decide +kernel), List.mem_of_getElem? (i := 190) (by decide +kernel)⟩
theorem lw_p9 : lw_okq (⟨"PriorityKernel", "makeOwner", "(LPriorityKernel$Task;I)V"⟩, 8) := ⟨⟨by decide +kernel, by decide +kernel⟩, List.mem_of_getElem? (i := 7) (by decide +kernel), List.mem_of_getElem? (i := 193) (by decide +kernel), List.mem_of_getElem? (i := 194) (by decide +kernel)⟩
theorem lw_p10 : lw_okq (⟨"PriorityKernel", "block", "(LPriorityKernel$Task;IJ)V"⟩, 8) := ⟨⟨by decide +kernel, by decide +kernel⟩, List.mem_of_getElem? (i := 7) (by decide +kernel), List.mem_of_getElem? (i := 197) (by decide +kernel), List.mem_of_getElem? (i := 198) (by decide +kernel)⟩
theorem lw_p11 : lw_okq (⟨"PriorityKernel", "give", "(I)V"⟩, 8) := ⟨⟨by decide +kernel, by decide +kernel⟩, List.mem_of_getElem? (i := 7) (by decide +kernel), List.mem_of_getElem? (i := 205) (by decide +kernel), List.mem_of_getElem? (i := 206) (by decide +kernel)⟩
theorem lw_p12 : lw_okq (⟨"PriorityKernel", "firstWaiter", "(I)LPriorityKernel$Task;"⟩, 8) := ⟨⟨by decide +kernel, by decide +kernel⟩, List.mem_of_getElem? (i := 7) (by decide +kernel), List.mem_of_getElem? (i := 209) (by decide +kernel), List.mem_of_getElem? (i := 210) (by decide +kernel)⟩
theorem lw_p13 : lw_okq (⟨"PriorityKernel", "deadlineAfter", "(I)J"⟩, 8) := ⟨⟨by decide +kernel, by decide +kernel⟩, List.mem_of_getElem? (i := 7) (by decide +kernel), List.mem_of_getElem? (i := 220) (by decide +kernel), List.mem_of_getElem? (i := 221) (by decide +kernel)⟩
theorem lw_p14 : lw_okq (⟨"PriorityKernel", "endAwait", "(LPriorityKernel$Task;I)V"⟩, 8) := ⟨⟨by decide +kernel, by decide +kernel⟩, List.mem_of_getElem? (i := 7) (by decide +kernel), List.mem_of_getElem? (i := 228) (by decide +kernel), List.mem_of_getElem? (i := 229) (by decide +kernel)⟩
theorem lw_p15 : lw_okq (⟨"PriorityKernel", "arrive", "(III)V"⟩, 8) := ⟨⟨by decide +kernel, by decide +kernel⟩, List.mem_of_getElem? (i := 7) (by decide +kernel), List.mem_of_getElem? (i := 248) (by decide +kernel), List.mem_of_getElem? (i := 249) (by decide +kernel)⟩
def lw_privs_1 : List (MethodName × Nat) := [(⟨"PriorityKernel", "leastFree", "()LPriorityKernel$Task;"⟩, 8), (⟨"PriorityKernel", "makeReady", "(LPriorityKernel$Task;I)V"⟩, 8), (⟨"PriorityKernel", "runner", "()LPriorityKernel$Task;"⟩, 8), (⟨"PriorityKernel", "foremost", "(II)LPriorityKernel$Task;"⟩, 8), (⟨"PriorityKernel", "workOutEffective", "()V"⟩, 8), (⟨"PriorityKernel", "inheritOnce", "()Z"⟩, 8), (⟨"PriorityKernel", "heirOf", "(LPriorityKernel$Task;)I"⟩, 8), (⟨"PriorityKernel", "startTurn", "(LPriorityKernel$Task;)V"⟩, 8), (⟨"PriorityKernel", "take", "(LPriorityKernel$Task;I)V"⟩, 8), (⟨"PriorityKernel", "makeOwner", "(LPriorityKernel$Task;I)V"⟩, 8), (⟨"PriorityKernel", "block", "(LPriorityKernel$Task;IJ)V"⟩, 8), (⟨"PriorityKernel", "give", "(I)V"⟩, 8), (⟨"PriorityKernel", "firstWaiter", "(I)LPriorityKernel$Task;"⟩, 8), (⟨"PriorityKernel", "deadlineAfter", "(I)J"⟩, 8), (⟨"PriorityKernel", "endAwait", "(LPriorityKernel$Task;I)V"⟩, 8), (⟨"PriorityKernel", "arrive", "(III)V"⟩, 8)]
theorem lw_r1 : ∀ q ∈ lw_privs_1, lw_okq q := List.forall_mem_cons.mpr ⟨lw_p0, List.forall_mem_cons.mpr ⟨lw_p1, List.forall_mem_cons.mpr ⟨lw_p2, List.forall_mem_cons.mpr ⟨lw_p3, List.forall_mem_cons.mpr ⟨lw_p4, List.forall_mem_cons.mpr ⟨lw_p5, List.forall_mem_cons.mpr ⟨lw_p6, List.forall_mem_cons.mpr ⟨lw_p7, List.forall_mem_cons.mpr ⟨lw_p8, List.forall_mem_cons.mpr ⟨lw_p9, List.forall_mem_cons.mpr ⟨lw_p10, List.forall_mem_cons.mpr ⟨lw_p11, List.forall_mem_cons.mpr ⟨lw_p12, List.forall_mem_cons.mpr ⟨lw_p13, List.forall_mem_cons.mpr ⟨lw_p14, List.forall_mem_cons.mpr ⟨lw_p15, fun _ h => absurd h List.not_mem_nil⟩⟩⟩⟩⟩⟩⟩⟩⟩⟩⟩⟩⟩⟩⟩⟩
theorem lw_p16 : lw_okq (⟨"PriorityKernel", "ownsAny", "(LPriorityKernel$Task;)Z"⟩, 8) := ⟨⟨by decide +kernel, by decide +kernel⟩, List.mem_of_getElem? (i := 7) (by decide +kernel), List.mem_of_getElem? (i := 282) (by decide +kernel), List.mem_of_getElem? (i := 283) (by decide +kernel)⟩
theorem lw_p17 : lw_okq (⟨"PriorityKernel", "tickOnce", "()V"⟩, 8) := ⟨⟨by decide +kernel, by decide +kernel⟩, List.mem_of_getElem? (i := 7) (by decide +kernel), List.mem_of_getElem? (i := 290) (by decide +kernel), List.mem_of_getElem? (i := 291) (by decide +kernel)⟩
theorem lw_p18 : lw_okq (⟨"PriorityKernel", "useTick", "(LPriorityKernel$Task;)V"⟩, 8) := ⟨⟨by decide +kernel, by decide +kernel⟩, List.mem_of_getElem? (i := 7) (by decide +kernel), List.mem_of_getElem? (i := 294) (by decide +kernel), List.mem_of_getElem? (i := 295) (by decide +kernel)⟩
theorem lw_p19 : lw_okq (⟨"PriorityKernel", "endWait", "(LPriorityKernel$Task;)V"⟩, 8) := ⟨⟨by decide +kernel, by decide +kernel⟩, List.mem_of_getElem? (i := 7) (by decide +kernel), List.mem_of_getElem? (i := 298) (by decide +kernel), List.mem_of_getElem? (i := 299) (by decide +kernel)⟩
theorem lw_p20 : lw_okq (⟨"PriorityKernel", "readyThreads", "()I"⟩, 8) := ⟨⟨by decide +kernel, by decide +kernel⟩, List.mem_of_getElem? (i := 7) (by decide +kernel), List.mem_of_getElem? (i := 319) (by decide +kernel), List.mem_of_getElem? (i := 320) (by decide +kernel)⟩
theorem lw_p21 : lw_okq (⟨"PriorityKernelModel", "weigh", "()V"⟩, 23) := ⟨⟨by decide +kernel, by decide +kernel⟩, List.mem_of_getElem? (i := 326) (by decide +kernel), List.mem_of_getElem? (i := 407) (by decide +kernel), List.mem_of_getElem? (i := 408) (by decide +kernel)⟩
theorem lw_p22 : lw_okq (⟨"PriorityKernelModel", "ready", "(I)V"⟩, 23) := ⟨⟨by decide +kernel, by decide +kernel⟩, List.mem_of_getElem? (i := 326) (by decide +kernel), List.mem_of_getElem? (i := 415) (by decide +kernel), List.mem_of_getElem? (i := 416) (by decide +kernel)⟩
theorem lw_p23 : lw_okq (⟨"PriorityKernelModel", "newStamp", "()I"⟩, 23) := ⟨⟨by decide +kernel, by decide +kernel⟩, List.mem_of_getElem? (i := 326) (by decide +kernel), List.mem_of_getElem? (i := 419) (by decide +kernel), List.mem_of_getElem? (i := 420) (by decide +kernel)⟩
theorem lw_p24 : lw_okq (⟨"PriorityKernelModel", "out", "(II)Z"⟩, 23) := ⟨⟨by decide +kernel, by decide +kernel⟩, List.mem_of_getElem? (i := 326) (by decide +kernel), List.mem_of_getElem? (i := 427) (by decide +kernel), List.mem_of_getElem? (i := 428) (by decide +kernel)⟩
theorem lw_p25 : lw_okq (⟨"PriorityKernelModel", "block", "(III)V"⟩, 23) := ⟨⟨by decide +kernel, by decide +kernel⟩, List.mem_of_getElem? (i := 326) (by decide +kernel), List.mem_of_getElem? (i := 440) (by decide +kernel), List.mem_of_getElem? (i := 441) (by decide +kernel)⟩
theorem lw_p26 : lw_okq (⟨"PriorityKernelModel", "give", "(I)V"⟩, 23) := ⟨⟨by decide +kernel, by decide +kernel⟩, List.mem_of_getElem? (i := 326) (by decide +kernel), List.mem_of_getElem? (i := 448) (by decide +kernel), List.mem_of_getElem? (i := 449) (by decide +kernel)⟩
theorem lw_p27 : lw_okq (⟨"PriorityKernelModel", "firstWaiter", "(I)I"⟩, 23) := ⟨⟨by decide +kernel, by decide +kernel⟩, List.mem_of_getElem? (i := 326) (by decide +kernel), List.mem_of_getElem? (i := 452) (by decide +kernel), List.mem_of_getElem? (i := 453) (by decide +kernel)⟩
theorem lw_p28 : lw_okq (⟨"PriorityKernelModel", "retake", "(II)V"⟩, 23) := ⟨⟨by decide +kernel, by decide +kernel⟩, List.mem_of_getElem? (i := 326) (by decide +kernel), List.mem_of_getElem? (i := 464) (by decide +kernel), List.mem_of_getElem? (i := 465) (by decide +kernel)⟩
theorem lw_p29 : lw_okq (⟨"PriorityKernelModel", "comeIn", "(III)V"⟩, 23) := ⟨⟨by decide +kernel, by decide +kernel⟩, List.mem_of_getElem? (i := 326) (by decide +kernel), List.mem_of_getElem? (i := 480) (by decide +kernel), List.mem_of_getElem? (i := 481) (by decide +kernel)⟩
theorem lw_p30 : lw_okq (⟨"PriorityKernelModel", "deadlineComes", "(I)V"⟩, 23) := ⟨⟨by decide +kernel, by decide +kernel⟩, List.mem_of_getElem? (i := 326) (by decide +kernel), List.mem_of_getElem? (i := 504) (by decide +kernel), List.mem_of_getElem? (i := 505) (by decide +kernel)⟩
def lw_privs_2 : List (MethodName × Nat) := [(⟨"PriorityKernel", "ownsAny", "(LPriorityKernel$Task;)Z"⟩, 8), (⟨"PriorityKernel", "tickOnce", "()V"⟩, 8), (⟨"PriorityKernel", "useTick", "(LPriorityKernel$Task;)V"⟩, 8), (⟨"PriorityKernel", "endWait", "(LPriorityKernel$Task;)V"⟩, 8), (⟨"PriorityKernel", "readyThreads", "()I"⟩, 8), (⟨"PriorityKernelModel", "weigh", "()V"⟩, 23), (⟨"PriorityKernelModel", "ready", "(I)V"⟩, 23), (⟨"PriorityKernelModel", "newStamp", "()I"⟩, 23), (⟨"PriorityKernelModel", "out", "(II)Z"⟩, 23), (⟨"PriorityKernelModel", "block", "(III)V"⟩, 23), (⟨"PriorityKernelModel", "give", "(I)V"⟩, 23), (⟨"PriorityKernelModel", "firstWaiter", "(I)I"⟩, 23), (⟨"PriorityKernelModel", "retake", "(II)V"⟩, 23), (⟨"PriorityKernelModel", "comeIn", "(III)V"⟩, 23), (⟨"PriorityKernelModel", "deadlineComes", "(I)V"⟩, 23)]
theorem lw_r2 : ∀ q ∈ lw_privs_2, lw_okq q := List.forall_mem_cons.mpr ⟨lw_p16, List.forall_mem_cons.mpr ⟨lw_p17, List.forall_mem_cons.mpr ⟨lw_p18, List.forall_mem_cons.mpr ⟨lw_p19, List.forall_mem_cons.mpr ⟨lw_p20, List.forall_mem_cons.mpr ⟨lw_p21, List.forall_mem_cons.mpr ⟨lw_p22, List.forall_mem_cons.mpr ⟨lw_p23, List.forall_mem_cons.mpr ⟨lw_p24, List.forall_mem_cons.mpr ⟨lw_p25, List.forall_mem_cons.mpr ⟨lw_p26, List.forall_mem_cons.mpr ⟨lw_p27, List.forall_mem_cons.mpr ⟨lw_p28, List.forall_mem_cons.mpr ⟨lw_p29, List.forall_mem_cons.mpr ⟨lw_p30, fun _ h => absurd h List.not_mem_nil⟩⟩⟩⟩⟩⟩⟩⟩⟩⟩⟩⟩⟩⟩⟩
def lw_privs : List (MethodName × Nat) := lw_privs_1 ++ (lw_privs_2)
def lw_tbl : List Cond := k2_sels lw_privs ++ tables_1
theorem lw_privs_ok : ∀ q ∈ lw_privs, lw_okq q := by
  show ∀ q ∈ lw_privs_1 ++ (lw_privs_2), lw_okq q
  exact List.forall_mem_append.mpr ⟨lw_r1, lw_r2⟩
end
section
/-! names of classes, fields, methods -/
def kn_T : List Cond := lw_tbl.filter goodWord
theorem kn_m {w : Cond} (h : w ∈ lw_tbl) (g : goodWord w = true) : w ∈ kn_T := List.mem_filter.mpr ⟨h, g⟩
def R_Q : String := "PriorityKernel$MessageQueue"
def T_Q : u_T := fun k => match k with
  | 0 => ("PriorityKernel$MessageQueue", "ranks", "[I", true)
  | 1 => ("PriorityKernel$MessageQueue", "contents", "[I", true)
  | _ => ("PriorityKernel$MessageQueue", "size", "I", false)
def ty_Q : Nat → FieldType := fun k => match k with
  | 0 => .array .int
  | 1 => .array .int
  | _ => .int
theorem nm_Q : ∀ a, a < 3 → ∀ b, b < 3 → a ≠ b → (T_Q a).2.1 ≠ (T_Q b).2.1 := by decide +kernel
theorem ty_Q_ok : ∀ k, k < 3 → parseFieldDescriptor (T_Q k).2.2.1 = some (ty_Q k) := by decide +kernel
theorem ux_Q : ∀ w ∈ u_ws R_Q T_Q 3, w ∈ lw_tbl := by decide +kernel
theorem uw_Q {c0 : Cond} : ∀ w ∈ u_ws R_Q T_Q 3, w ∈ c0 :: kn_T := fun w h => List.mem_cons_of_mem _ (kn_m (ux_Q w h) ((by decide +kernel : ∀ w ∈ u_ws R_Q T_Q 3, goodWord w = true) w h))
def R_T : String := "PriorityKernel$Task"
def T_T : u_T := fun k => match k with
  | 0 => ("PriorityKernel$Task", "number", "I", true)
  | 1 => ("PriorityKernel$Task", "state", "I", false)
  | 2 => ("PriorityKernel$Task", "base", "I", false)
  | 3 => ("PriorityKernel$Task", "effective", "I", false)
  | 4 => ("PriorityKernel$Task", "sliced", "Z", false)
  | 5 => ("PriorityKernel$Task", "used", "I", false)
  | 6 => ("PriorityKernel$Task", "result", "I", false)
  | 7 => ("PriorityKernel$Task", "since", "J", false)
  | 8 => ("PriorityKernel$Task", "waitsOn", "I", false)
  | 9 => ("PriorityKernel$Task", "deadline", "J", false)
  | 10 => ("PriorityKernel$Task", "mutexInMind", "I", false)
  | 11 => ("PriorityKernel$Task", "resultWhenOwning", "I", false)
  | 12 => ("PriorityKernel$Task", "rank", "I", false)
  | _ => ("PriorityKernel$Task", "value", "I", false)
def ty_T : Nat → FieldType := fun k => match k with
  | 0 => .int
  | 1 => .int
  | 2 => .int
  | 3 => .int
  | 4 => .boolean
  | 5 => .int
  | 6 => .int
  | 7 => .long
  | 8 => .int
  | 9 => .long
  | 10 => .int
  | 11 => .int
  | 12 => .int
  | _ => .int
theorem nm_T : ∀ a, a < 14 → ∀ b, b < 14 → a ≠ b → (T_T a).2.1 ≠ (T_T b).2.1 := by decide +kernel
theorem ty_T_ok : ∀ k, k < 14 → parseFieldDescriptor (T_T k).2.2.1 = some (ty_T k) := by decide +kernel
theorem ux_T : ∀ w ∈ u_ws R_T T_T 14, w ∈ lw_tbl := by decide +kernel
theorem uw_T {c0 : Cond} : ∀ w ∈ u_ws R_T T_T 14, w ∈ c0 :: kn_T := fun w h => List.mem_cons_of_mem _ (kn_m (ux_T w h) ((by decide +kernel : ∀ w ∈ u_ws R_T T_T 14, goodWord w = true) w h))
def R_X : String := "PriorityKernel"
def T_X : u_T := fun k => match k with
  | 0 => ("PriorityKernel", "slice", "I", true)
  | 1 => ("PriorityKernel", "ceiling", "I", true)
  | 2 => ("PriorityKernel", "tasks", "[LPriorityKernel$Task;", true)
  | 3 => ("PriorityKernel", "owners", "[I", true)
  | 4 => ("PriorityKernel", "values", "[I", true)
  | 5 => ("PriorityKernel", "queues", "[LPriorityKernel$MessageQueue;", true)
  | 6 => ("PriorityKernel", "time", "I", false)
  | _ => ("PriorityKernel", "lastMoment", "J", false)
def ty_X : Nat → FieldType := fun k => match k with
  | 0 => .int
  | 1 => .int
  | 2 => .array (.object "PriorityKernel$Task")
  | 3 => .array .int
  | 4 => .array .int
  | 5 => .array (.object "PriorityKernel$MessageQueue")
  | 6 => .int
  | _ => .long
theorem nm_X : ∀ a, a < 8 → ∀ b, b < 8 → a ≠ b → (T_X a).2.1 ≠ (T_X b).2.1 := by decide +kernel
theorem ty_X_ok : ∀ k, k < 8 → parseFieldDescriptor (T_X k).2.2.1 = some (ty_X k) := by decide +kernel
theorem ux_X : ∀ w ∈ u_ws R_X T_X 8, w ∈ lw_tbl := by decide +kernel
theorem uw_X {c0 : Cond} : ∀ w ∈ u_ws R_X T_X 8, w ∈ c0 :: kn_T := fun w h => List.mem_cons_of_mem _ (kn_m (ux_X w h) ((by decide +kernel : ∀ w ∈ u_ws R_X T_X 8, goodWord w = true) w h))
def R_M : String := "PriorityKernelModel"
def T_M : u_T := fun k => match k with
  | 0 => ("PriorityKernelModel", "slice", "I", true)
  | 1 => ("PriorityKernelModel", "ceiling", "I", true)
  | 2 => ("PriorityKernelModel", "time", "I", false)
  | 3 => ("PriorityKernelModel", "stamps", "I", false)
  | 4 => ("PriorityKernelModel", "state", "[I", true)
  | 5 => ("PriorityKernelModel", "base", "[I", true)
  | 6 => ("PriorityKernelModel", "stamp", "[I", true)
  | 7 => ("PriorityKernelModel", "used", "[I", true)
  | 8 => ("PriorityKernelModel", "on", "[I", true)
  | 9 => ("PriorityKernelModel", "since", "[I", true)
  | 10 => ("PriorityKernelModel", "deadline", "[I", true)
  | 11 => ("PriorityKernelModel", "result", "[I", true)
  | 12 => ("PriorityKernelModel", "mind", "[I", true)
  | 13 => ("PriorityKernelModel", "rank", "[I", true)
  | 14 => ("PriorityKernelModel", "value", "[I", true)
  | 15 => ("PriorityKernelModel", "sliced", "[Z", true)
  | 16 => ("PriorityKernelModel", "retakes", "[Z", true)
  | 17 => ("PriorityKernelModel", "owns", "[I", true)
  | 18 => ("PriorityKernelModel", "count", "[I", true)
  | 19 => ("PriorityKernelModel", "messages", "[I", true)
  | 20 => ("PriorityKernelModel", "messageRank", "[I", true)
  | 21 => ("PriorityKernelModel", "messageValue", "[I", true)
  | _ => ("PriorityKernelModel", "urgent", "[I", true)
def ty_M : Nat → FieldType := fun k => match k with
  | 0 => .int
  | 1 => .int
  | 2 => .int
  | 3 => .int
  | 4 => .array .int
  | 5 => .array .int
  | 6 => .array .int
  | 7 => .array .int
  | 8 => .array .int
  | 9 => .array .int
  | 10 => .array .int
  | 11 => .array .int
  | 12 => .array .int
  | 13 => .array .int
  | 14 => .array .int
  | 15 => .array .boolean
  | 16 => .array .boolean
  | 17 => .array .int
  | 18 => .array .int
  | 19 => .array .int
  | 20 => .array .int
  | 21 => .array .int
  | _ => .array .int
theorem nm_M : ∀ a, a < 23 → ∀ b, b < 23 → a ≠ b → (T_M a).2.1 ≠ (T_M b).2.1 := by decide +kernel
theorem ty_M_ok : ∀ k, k < 23 → parseFieldDescriptor (T_M k).2.2.1 = some (ty_M k) := by decide +kernel
theorem ux_M : ∀ w ∈ u_ws R_M T_M 23, w ∈ lw_tbl := by decide +kernel
theorem uw_M {c0 : Cond} : ∀ w ∈ u_ws R_M T_M 23, w ∈ c0 :: kn_T := fun w h => List.mem_cons_of_mem _ (kn_m (ux_M w h) ((by decide +kernel : ∀ w ∈ u_ws R_M T_M 23, goodWord w = true) w h))
abbrev vwCl : List vw_C := [(R_Q, T_Q, 3), (R_T, T_T, 14), (R_X, T_X, 8), (R_M, T_M, 23)]
abbrev b_X_init : ByteArray := prog_1_method_1_code
def y_X_init : MethodName := ⟨R_X, "<init>", "(II)V"⟩
def ws_X_init : List Cond := .code y_X_init b_X_init 4 none :: kn_T
abbrev b_T_init : ByteArray := prog_3_method_1_code
def y_T_init : MethodName := ⟨R_T, "<init>", "(I)V"⟩
def ws_T_init : List Cond := .code y_T_init b_T_init 2 none :: kn_T
abbrev b_Q_init : ByteArray := prog_2_method_1_code
def y_Q_init : MethodName := ⟨R_Q, "<init>", "()V"⟩
def ws_Q_init : List Cond := .code y_Q_init b_Q_init 1 none :: kn_T
abbrev b_X_spawn : ByteArray := prog_1_method_2_code
def y_X_spawn : MethodName := ⟨R_X, "spawn", "(IZ)I"⟩
def ws_X_spawn : List Cond := .code y_X_spawn b_X_spawn 4 (some .int) :: kn_T
abbrev b_X_isPriority : ByteArray := prog_1_method_22_code
def y_X_isPriority : MethodName := ⟨R_X, "isPriority", "(I)Z"⟩
def ws_X_isPriority : List Cond := .code y_X_isPriority b_X_isPriority 1 (some .boolean) :: kn_T
abbrev b_X_leastFree : ByteArray := prog_1_method_25_code
def y_X_leastFree : MethodName := ⟨R_X, "leastFree", "()LPriorityKernel$Task;"⟩
def ws_X_leastFree : List Cond := .code y_X_leastFree b_X_leastFree 5 (some (.object "PriorityKernel$Task")) :: kn_T
abbrev b_X_makeReady : ByteArray := prog_1_method_35_code
def y_X_makeReady : MethodName := ⟨R_X, "makeReady", "(LPriorityKernel$Task;I)V"⟩
def ws_X_makeReady : List Cond := .code y_X_makeReady b_X_makeReady 3 none :: kn_T
abbrev b_X_priority : ByteArray := prog_1_method_3_code
def y_X_priority : MethodName := ⟨R_X, "priority", "(II)I"⟩
def ws_X_priority : List Cond := .code y_X_priority b_X_priority 4 (some .int) :: kn_T
abbrev b_X_isBelow : ByteArray := prog_1_method_21_code
def y_X_isBelow : MethodName := ⟨R_X, "isBelow", "(II)Z"⟩
def ws_X_isBelow : List Cond := .code y_X_isBelow b_X_isBelow 2 (some .boolean) :: kn_T
abbrev b_X_pass : ByteArray := prog_1_method_4_code
def y_X_pass : MethodName := ⟨R_X, "pass", "()I"⟩
def ws_X_pass : List Cond := .code y_X_pass b_X_pass 2 (some .int) :: kn_T
abbrev b_X_runner : ByteArray := prog_1_method_28_code
def y_X_runner : MethodName := ⟨R_X, "runner", "()LPriorityKernel$Task;"⟩
def ws_X_runner : List Cond := .code y_X_runner b_X_runner 1 (some (.object "PriorityKernel$Task")) :: kn_T
abbrev b_X_foremost : ByteArray := prog_1_method_30_code
def y_X_foremost : MethodName := ⟨R_X, "foremost", "(II)LPriorityKernel$Task;"⟩
def ws_X_foremost : List Cond := .code y_X_foremost b_X_foremost 8 (some (.object "PriorityKernel$Task")) :: kn_T
abbrev b_X_workOutEffective : ByteArray := prog_1_method_31_code
def y_X_workOutEffective : MethodName := ⟨R_X, "workOutEffective", "()V"⟩
def ws_X_workOutEffective : List Cond := .code y_X_workOutEffective b_X_workOutEffective 5 none :: kn_T
abbrev b_X_inheritOnce : ByteArray := prog_1_method_32_code
def y_X_inheritOnce : MethodName := ⟨R_X, "inheritOnce", "()Z"⟩
def ws_X_inheritOnce : List Cond := .code y_X_inheritOnce b_X_inheritOnce 7 (some .boolean) :: kn_T
abbrev b_X_heirOf : ByteArray := prog_1_method_33_code
def y_X_heirOf : MethodName := ⟨R_X, "heirOf", "(LPriorityKernel$Task;)I"⟩
def ws_X_heirOf : List Cond := .code y_X_heirOf b_X_heirOf 3 (some .int) :: kn_T
abbrev b_T_isAheadOf : ByteArray := prog_3_method_2_code
def y_T_isAheadOf : MethodName := ⟨R_T, "isAheadOf", "(LPriorityKernel$Task;)Z"⟩
def ws_T_isAheadOf : List Cond := .code y_T_isAheadOf b_T_isAheadOf 2 (some .boolean) :: kn_T
abbrev b_X_startTurn : ByteArray := prog_1_method_34_code
def y_X_startTurn : MethodName := ⟨R_X, "startTurn", "(LPriorityKernel$Task;)V"⟩
def ws_X_startTurn : List Cond := .code y_X_startTurn b_X_startTurn 2 none :: kn_T
abbrev b_X_lock : ByteArray := prog_1_method_5_code
def y_X_lock : MethodName := ⟨R_X, "lock", "(I)I"⟩
def ws_X_lock : List Cond := .code y_X_lock b_X_lock 3 (some .int) :: kn_T
abbrev b_X_take : ByteArray := prog_1_method_37_code
def y_X_take : MethodName := ⟨R_X, "take", "(LPriorityKernel$Task;I)V"⟩
def ws_X_take : List Cond := .code y_X_take b_X_take 3 none :: kn_T
abbrev b_X_makeOwner : ByteArray := prog_1_method_39_code
def y_X_makeOwner : MethodName := ⟨R_X, "makeOwner", "(LPriorityKernel$Task;I)V"⟩
def ws_X_makeOwner : List Cond := .code y_X_makeOwner b_X_makeOwner 3 none :: kn_T
abbrev b_X_block : ByteArray := prog_1_method_36_code
def y_X_block : MethodName := ⟨R_X, "block", "(LPriorityKernel$Task;IJ)V"⟩
def ws_X_block : List Cond := .code y_X_block b_X_block 5 none :: kn_T
abbrev b_X_unlock : ByteArray := prog_1_method_6_code
def y_X_unlock : MethodName := ⟨R_X, "unlock", "(I)I"⟩
def ws_X_unlock : List Cond := .code y_X_unlock b_X_unlock 3 (some .int) :: kn_T
abbrev b_X_give : ByteArray := prog_1_method_38_code
def y_X_give : MethodName := ⟨R_X, "give", "(I)V"⟩
def ws_X_give : List Cond := .code y_X_give b_X_give 3 none :: kn_T
abbrev b_X_firstWaiter : ByteArray := prog_1_method_29_code
def y_X_firstWaiter : MethodName := ⟨R_X, "firstWaiter", "(I)LPriorityKernel$Task;"⟩
def ws_X_firstWaiter : List Cond := .code y_X_firstWaiter b_X_firstWaiter 2 (some (.object "PriorityKernel$Task")) :: kn_T
abbrev b_X_await : ByteArray := prog_1_method_7_code
def y_X_await : MethodName := ⟨R_X, "await", "(III)I"⟩
def ws_X_await : List Cond := .code y_X_await b_X_await 5 (some .int) :: kn_T
abbrev b_X_isTimeout : ByteArray := prog_1_method_23_code
def y_X_isTimeout : MethodName := ⟨R_X, "isTimeout", "(I)Z"⟩
def ws_X_isTimeout : List Cond := .code y_X_isTimeout b_X_isTimeout 1 (some .boolean) :: kn_T
abbrev b_X_deadlineAfter : ByteArray := prog_1_method_24_code
def y_X_deadlineAfter : MethodName := ⟨R_X, "deadlineAfter", "(I)J"⟩
def ws_X_deadlineAfter : List Cond := .code y_X_deadlineAfter b_X_deadlineAfter 2 (some .long) :: kn_T
abbrev b_X_signal : ByteArray := prog_1_method_8_code
def y_X_signal : MethodName := ⟨R_X, "signal", "(IZ)I"⟩
def ws_X_signal : List Cond := .code y_X_signal b_X_signal 7 (some .int) :: kn_T
abbrev b_X_endAwait : ByteArray := prog_1_method_40_code
def y_X_endAwait : MethodName := ⟨R_X, "endAwait", "(LPriorityKernel$Task;I)V"⟩
def ws_X_endAwait : List Cond := .code y_X_endAwait b_X_endAwait 3 none :: kn_T
abbrev b_X_down : ByteArray := prog_1_method_9_code
def y_X_down : MethodName := ⟨R_X, "down", "(II)I"⟩
def ws_X_down : List Cond := .code y_X_down b_X_down 4 (some .int) :: kn_T
abbrev b_X_post : ByteArray := prog_1_method_10_code
def y_X_post : MethodName := ⟨R_X, "post", "(I)I"⟩
def ws_X_post : List Cond := .code y_X_post b_X_post 3 (some .int) :: kn_T
abbrev b_X_send : ByteArray := prog_1_method_11_code
def y_X_send : MethodName := ⟨R_X, "send", "(III)I"⟩
def ws_X_send : List Cond := .code y_X_send b_X_send 5 (some .int) :: kn_T
abbrev b_Q_isFull : ByteArray := prog_2_method_3_code
def y_Q_isFull : MethodName := ⟨R_Q, "isFull", "()Z"⟩
def ws_Q_isFull : List Cond := .code y_Q_isFull b_Q_isFull 1 (some .boolean) :: kn_T
abbrev b_X_arrive : ByteArray := prog_1_method_41_code
def y_X_arrive : MethodName := ⟨R_X, "arrive", "(III)V"⟩
def ws_X_arrive : List Cond := .code y_X_arrive b_X_arrive 5 none :: kn_T
abbrev b_Q_insert : ByteArray := prog_2_method_4_code
def y_Q_insert : MethodName := ⟨R_Q, "insert", "(II)V"⟩
def ws_Q_insert : List Cond := .code y_Q_insert b_Q_insert 4 none :: kn_T
abbrev b_X_receive : ByteArray := prog_1_method_12_code
def y_X_receive : MethodName := ⟨R_X, "receive", "(I)I"⟩
def ws_X_receive : List Cond := .code y_X_receive b_X_receive 4 (some .int) :: kn_T
abbrev b_Q_isEmpty : ByteArray := prog_2_method_2_code
def y_Q_isEmpty : MethodName := ⟨R_Q, "isEmpty", "()Z"⟩
def ws_Q_isEmpty : List Cond := .code y_Q_isEmpty b_Q_isEmpty 1 (some .boolean) :: kn_T
abbrev b_Q_removeFirst : ByteArray := prog_2_method_5_code
def y_Q_removeFirst : MethodName := ⟨R_Q, "removeFirst", "()I"⟩
def ws_Q_removeFirst : List Cond := .code y_Q_removeFirst b_Q_removeFirst 3 (some .int) :: kn_T
abbrev b_X_sleep : ByteArray := prog_1_method_13_code
def y_X_sleep : MethodName := ⟨R_X, "sleep", "(I)I"⟩
def ws_X_sleep : List Cond := .code y_X_sleep b_X_sleep 3 (some .int) :: kn_T
abbrev b_X_join : ByteArray := prog_1_method_14_code
def y_X_join : MethodName := ⟨R_X, "join", "(I)I"⟩
def ws_X_join : List Cond := .code y_X_join b_X_join 4 (some .int) :: kn_T
abbrev b_X_exit : ByteArray := prog_1_method_15_code
def y_X_exit : MethodName := ⟨R_X, "exit", "(I)I"⟩
def ws_X_exit : List Cond := .code y_X_exit b_X_exit 4 (some .int) :: kn_T
abbrev b_X_ownsAny : ByteArray := prog_1_method_27_code
def y_X_ownsAny : MethodName := ⟨R_X, "ownsAny", "(LPriorityKernel$Task;)Z"⟩
def ws_X_ownsAny : List Cond := .code y_X_ownsAny b_X_ownsAny 6 (some .boolean) :: kn_T
abbrev b_X_tick : ByteArray := prog_1_method_16_code
def y_X_tick : MethodName := ⟨R_X, "tick", "(I)I"⟩
def ws_X_tick : List Cond := .code y_X_tick b_X_tick 3 (some .int) :: kn_T
abbrev b_X_tickOnce : ByteArray := prog_1_method_42_code
def y_X_tickOnce : MethodName := ⟨R_X, "tickOnce", "()V"⟩
def ws_X_tickOnce : List Cond := .code y_X_tickOnce b_X_tickOnce 6 none :: kn_T
abbrev b_X_useTick : ByteArray := prog_1_method_43_code
def y_X_useTick : MethodName := ⟨R_X, "useTick", "(LPriorityKernel$Task;)V"⟩
def ws_X_useTick : List Cond := .code y_X_useTick b_X_useTick 2 none :: kn_T
abbrev b_X_endWait : ByteArray := prog_1_method_44_code
def y_X_endWait : MethodName := ⟨R_X, "endWait", "(LPriorityKernel$Task;)V"⟩
def ws_X_endWait : List Cond := .code y_X_endWait b_X_endWait 2 none :: kn_T
abbrev b_X_running : ByteArray := prog_1_method_17_code
def y_X_running : MethodName := ⟨R_X, "running", "()I"⟩
def ws_X_running : List Cond := .code y_X_running b_X_running 2 (some .int) :: kn_T
abbrev b_X_tell : ByteArray := prog_1_method_18_code
def y_X_tell : MethodName := ⟨R_X, "tell", "(II)J"⟩
def ws_X_tell : List Cond := .code y_X_tell b_X_tell 4 (some .long) :: kn_T
abbrev b_X_owner : ByteArray := prog_1_method_19_code
def y_X_owner : MethodName := ⟨R_X, "owner", "(I)I"⟩
def ws_X_owner : List Cond := .code y_X_owner b_X_owner 2 (some .int) :: kn_T
abbrev b_X_count : ByteArray := prog_1_method_20_code
def y_X_count : MethodName := ⟨R_X, "count", "(I)I"⟩
def ws_X_count : List Cond := .code y_X_count b_X_count 2 (some .int) :: kn_T
abbrev b_X_readyThreads : ByteArray := prog_1_method_26_code
def y_X_readyThreads : MethodName := ⟨R_X, "readyThreads", "()I"⟩
def ws_X_readyThreads : List Cond := .code y_X_readyThreads b_X_readyThreads 6 (some .int) :: kn_T
abbrev b_L_cell : ByteArray := method_2_code
def y_L_cell : MethodName := ⟨"PriorityKernelLaw", "cell", "([II)I"⟩
def ws_L_cell : List Cond := .code y_L_cell b_L_cell 2 (some .int) :: kn_T
abbrev b_M_init : ByteArray := prog_5_method_1_code
def y_M_init : MethodName := ⟨R_M, "<init>", "(II)V"⟩
def ws_M_init : List Cond := .code y_M_init b_M_init 4 none :: kn_T
abbrev b_M_running : ByteArray := prog_5_method_7_code
def y_M_running : MethodName := ⟨R_M, "running", "()I"⟩
def ws_M_running : List Cond := .code y_M_running b_M_running 3 (some .int) :: kn_T
abbrev b_M_weigh : ByteArray := prog_5_method_6_code
def y_M_weigh : MethodName := ⟨R_M, "weigh", "()V"⟩
def ws_M_weigh : List Cond := .code y_M_weigh b_M_weigh 4 none :: kn_T
abbrev b_M_spawn : ByteArray := prog_5_method_11_code
def y_M_spawn : MethodName := ⟨R_M, "spawn", "(IZ)I"⟩
def ws_M_spawn : List Cond := .code y_M_spawn b_M_spawn 4 (some .int) :: kn_T
abbrev b_M_ready : ByteArray := prog_5_method_4_code
def y_M_ready : MethodName := ⟨R_M, "ready", "(I)V"⟩
def ws_M_ready : List Cond := .code y_M_ready b_M_ready 2 none :: kn_T
abbrev b_M_newStamp : ByteArray := prog_5_method_3_code
def y_M_newStamp : MethodName := ⟨R_M, "newStamp", "()I"⟩
def ws_M_newStamp : List Cond := .code y_M_newStamp b_M_newStamp 1 (some .int) :: kn_T
abbrev b_M_priority : ByteArray := prog_5_method_12_code
def y_M_priority : MethodName := ⟨R_M, "priority", "(II)I"⟩
def ws_M_priority : List Cond := .code y_M_priority b_M_priority 3 (some .int) :: kn_T
abbrev b_M_out : ByteArray := prog_5_method_2_code
def y_M_out : MethodName := ⟨R_M, "out", "(II)Z"⟩
def ws_M_out : List Cond := .code y_M_out b_M_out 3 (some .boolean) :: kn_T
abbrev b_M_pass : ByteArray := prog_5_method_13_code
def y_M_pass : MethodName := ⟨R_M, "pass", "()I"⟩
def ws_M_pass : List Cond := .code y_M_pass b_M_pass 2 (some .int) :: kn_T
abbrev b_M_lock : ByteArray := prog_5_method_14_code
def y_M_lock : MethodName := ⟨R_M, "lock", "(I)I"⟩
def ws_M_lock : List Cond := .code y_M_lock b_M_lock 3 (some .int) :: kn_T
abbrev b_M_block : ByteArray := prog_5_method_5_code
def y_M_block : MethodName := ⟨R_M, "block", "(III)V"⟩
def ws_M_block : List Cond := .code y_M_block b_M_block 4 none :: kn_T
abbrev b_M_unlock : ByteArray := prog_5_method_15_code
def y_M_unlock : MethodName := ⟨R_M, "unlock", "(I)I"⟩
def ws_M_unlock : List Cond := .code y_M_unlock b_M_unlock 3 (some .int) :: kn_T
abbrev b_M_give : ByteArray := prog_5_method_9_code
def y_M_give : MethodName := ⟨R_M, "give", "(I)V"⟩
def ws_M_give : List Cond := .code y_M_give b_M_give 3 none :: kn_T
abbrev b_M_firstWaiter : ByteArray := prog_5_method_8_code
def y_M_firstWaiter : MethodName := ⟨R_M, "firstWaiter", "(I)I"⟩
def ws_M_firstWaiter : List Cond := .code y_M_firstWaiter b_M_firstWaiter 4 (some .int) :: kn_T
abbrev b_M_await : ByteArray := prog_5_method_16_code
def y_M_await : MethodName := ⟨R_M, "await", "(III)I"⟩
def ws_M_await : List Cond := .code y_M_await b_M_await 5 (some .int) :: kn_T
abbrev b_M_signal : ByteArray := prog_5_method_17_code
def y_M_signal : MethodName := ⟨R_M, "signal", "(IZ)I"⟩
def ws_M_signal : List Cond := .code y_M_signal b_M_signal 6 (some .int) :: kn_T
abbrev b_M_retake : ByteArray := prog_5_method_10_code
def y_M_retake : MethodName := ⟨R_M, "retake", "(II)V"⟩
def ws_M_retake : List Cond := .code y_M_retake b_M_retake 4 none :: kn_T
abbrev b_M_down : ByteArray := prog_5_method_18_code
def y_M_down : MethodName := ⟨R_M, "down", "(II)I"⟩
def ws_M_down : List Cond := .code y_M_down b_M_down 4 (some .int) :: kn_T
abbrev b_M_post : ByteArray := prog_5_method_19_code
def y_M_post : MethodName := ⟨R_M, "post", "(I)I"⟩
def ws_M_post : List Cond := .code y_M_post b_M_post 3 (some .int) :: kn_T
abbrev b_M_send : ByteArray := prog_5_method_21_code
def y_M_send : MethodName := ⟨R_M, "send", "(III)I"⟩
def ws_M_send : List Cond := .code y_M_send b_M_send 6 (some .int) :: kn_T
abbrev b_M_comeIn : ByteArray := prog_5_method_20_code
def y_M_comeIn : MethodName := ⟨R_M, "comeIn", "(III)V"⟩
def ws_M_comeIn : List Cond := .code y_M_comeIn b_M_comeIn 5 none :: kn_T
abbrev b_M_receive : ByteArray := prog_5_method_22_code
def y_M_receive : MethodName := ⟨R_M, "receive", "(I)I"⟩
def ws_M_receive : List Cond := .code y_M_receive b_M_receive 4 (some .int) :: kn_T
abbrev b_M_sleep : ByteArray := prog_5_method_23_code
def y_M_sleep : MethodName := ⟨R_M, "sleep", "(I)I"⟩
def ws_M_sleep : List Cond := .code y_M_sleep b_M_sleep 3 (some .int) :: kn_T
abbrev b_M_join : ByteArray := prog_5_method_24_code
def y_M_join : MethodName := ⟨R_M, "join", "(I)I"⟩
def ws_M_join : List Cond := .code y_M_join b_M_join 3 (some .int) :: kn_T
abbrev b_M_exit : ByteArray := prog_5_method_25_code
def y_M_exit : MethodName := ⟨R_M, "exit", "(I)I"⟩
def ws_M_exit : List Cond := .code y_M_exit b_M_exit 4 (some .int) :: kn_T
abbrev b_M_tick : ByteArray := prog_5_method_27_code
def y_M_tick : MethodName := ⟨R_M, "tick", "(I)I"⟩
def ws_M_tick : List Cond := .code y_M_tick b_M_tick 5 (some .int) :: kn_T
abbrev b_M_deadlineComes : ByteArray := prog_5_method_26_code
def y_M_deadlineComes : MethodName := ⟨R_M, "deadlineComes", "(I)V"⟩
def ws_M_deadlineComes : List Cond := .code y_M_deadlineComes b_M_deadlineComes 2 none :: kn_T
abbrev b_M_tell : ByteArray := prog_5_method_28_code
def y_M_tell : MethodName := ⟨R_M, "tell", "(II)J"⟩
def ws_M_tell : List Cond := .code y_M_tell b_M_tell 3 (some .long) :: kn_T
abbrev b_M_owner : ByteArray := prog_5_method_29_code
def y_M_owner : MethodName := ⟨R_M, "owner", "(I)I"⟩
def ws_M_owner : List Cond := .code y_M_owner b_M_owner 2 (some .int) :: kn_T
abbrev b_M_count : ByteArray := prog_5_method_30_code
def y_M_count : MethodName := ⟨R_M, "count", "(I)I"⟩
def ws_M_count : List Cond := .code y_M_count b_M_count 4 (some .int) :: kn_T
theorem kn_1 {w : Cond} (h : w ∈ kn_T) : w ∈ kn_T ∧ ((w.onTables && w.keeps) = true ∨ ∃ ty, w = .arrayClass ty) := ⟨h, good_of_word (List.mem_filter.mp h).2⟩
theorem kn_I {c0 c1 : Cond} (h1 : c1 ∈ kn_T) : GoodIn (c0 :: kn_T) (c1 :: kn_T) := fun w hw => by
  rcases List.mem_cons.mp hw with rfl | h
  · exact ⟨List.mem_cons_of_mem _ h1, (kn_1 h1).2⟩
  · exact ⟨List.mem_cons_of_mem _ h, (kn_1 h).2⟩
theorem kn_V {c0 c1 : Cond} {own C : String} {idx : Nat} {y : MethodName} (h1 : Cond.methodLink own idx y ∈ kn_T) (h2 : Cond.instanceMethod y ∈ kn_T) (h3 : Cond.selects C y y ∈ kn_T) (h4 : Cond.initialized C ∈ kn_T) (h5 : c1 ∈ kn_T) : GoodIn (c0 :: kn_T) (wsV own idx C y (c1 :: kn_T)) := fun w hw => by
  have g : ∀ v ∈ kn_T, v ∈ c0 :: kn_T ∧ ((v.onTables && v.keeps) = true ∨ ∃ ty, v = .arrayClass ty) := fun v hv => ⟨List.mem_cons_of_mem _ hv, (kn_1 hv).2⟩
  rcases List.mem_append.mp hw with h | h
  · simp only [List.mem_cons, List.not_mem_nil, or_false] at h
    rcases h with rfl | rfl | rfl | rfl
    · exact g _ h1
    · exact g _ h2
    · exact g _ h3
    · exact g _ h4
  · rcases List.mem_cons.mp h with rfl | h
    · exact g _ h5
    · exact g _ h
theorem kn_S {c0 c1 : Cond} {own : String} {idx : Nat} {y : MethodName} (h1 : Cond.methodLink own idx y ∈ kn_T) (h2 : Cond.static y ∈ kn_T) (h4 : Cond.initialized own ∈ kn_T) (h5 : c1 ∈ kn_T) : GoodIn (c0 :: kn_T) (wsS own idx y (c1 :: kn_T)) := fun w hw => by
  have g : ∀ v ∈ kn_T, v ∈ c0 :: kn_T ∧ ((v.onTables && v.keeps) = true ∨ ∃ ty, v = .arrayClass ty) := fun v hv => ⟨List.mem_cons_of_mem _ hv, (kn_1 hv).2⟩
  rcases List.mem_append.mp hw with h | h
  · simp only [List.mem_cons, List.not_mem_nil, or_false] at h
    rcases h with rfl | rfl | rfl
    · exact g _ h1
    · exact g _ h2
    · exact g _ h4
  · rcases List.mem_cons.mp h with rfl | h
    · exact g _ h5
    · exact g _ h
end
section
/-! rows of my own over the kit: calls and ends in a world that is a function of a state -/
section KK
variable {p : Program} {l : Launch} {e : Env} {R : Room} {s : State} {m : MethodId} {args : Array Value} {below : List Frame} {meth : Method} {c : Code} {H : Heap} {locs : List Loc} {Q : State → Prop}
variable {Sg : Type} {w : Sg → va_W} {D : va_G} {cl : List vw_C} {tys : List (ClassId × FieldType)} {A0 A1 : Nat → Prop} {H0 : Heap}
def kk_B (D : va_G) (cl : List vw_C) (tys : List (ClassId × FieldType)) (w : Sg → va_W) (u : Sg) (t : State) : Prop := va_P D cl (w u) t.heap ∧ va_K D cl tys t
def kk_Pc (D : va_G) (cl : List vw_C) (tys : List (ClassId × FieldType)) (ws : va_W) (av : List Value) : Array Value → State → Prop := va_Pc av (fun U => va_P D cl ws U.heap ∧ va_K D cl tys U)
theorem kk_blind {ws : va_W} {av : List Value} : FrameBlind (kk_Pc D cl tys ws av) := fun a U g mk q => by
  obtain ⟨q0, qP, qK⟩ := q
  exact ⟨q0, qP, va_K.moved (u := U) (U := U.calling g mk a) (Vm.Alike.refl U.vm) qK⟩
theorem kk_pre {ws : va_W} {av : List Value} (hP : va_P D cl ws H) (hK : va_K D cl tys s) : ∀ U : State, U.heap = H → s.WarmedH U.vm → kk_Pc D cl tys ws av av.toArray U := fun U hU hW => ⟨rfl, by rw [hU]; exact hP, va_K.moved hW.alike hK⟩
variable {y : MethodName} {bytes cc : ByteArray} {maxL nL n index : Nat} {ret : Option FieldType} {ws : List Cond} {rm : Room} {Ts : List Cond} {own C : String} {b : Addr} {As rest st0 : List Value} {pc : Nat} {ls : Array Slot} {S : Sg} {cells slots : Nat}
theorem kk_ci {post : Int32 → Sg → Prop} (F : CallFix p m c cc nL s args Ts own) (hM : Met l y ws rm (kk_Pc D cl tys (w S) (.ref b :: As)) (va_Qi post (kk_B D cl tys w) A1) 0 0 A1) (cw : CallW R s args own C index y bytes maxL ret ws rm 0 0 n) (hrecv : ∃ cellB : Cell, H[b]? = some cellB ∧ cellB.vm.isStatics = false ∧ s.vm.findClass C = some cellB.cls)
    (hP : va_P D cl (w S) H) (hK : va_K D cl tys s) (hS : va_S A0 H0 H locs) (hA : ∀ q, A1 q → A0 q) (hn : As.length = n) (hsize : ls.size = nL) (hstack : st0 = As.reverse ++ .ref b :: rest) (hW : (rest.map fun v => v.category).sum ≤ 8) (hdg : decode cc pc = .ok (.invokevirtual index, 3)) (hf : cells ≤ R.cells ∧ slots ≤ R.slots)
    (kk : ∀ (r : Int32) (u : Sg) (H1 : Heap) (locs1 : List Loc), post r u → va_P D cl (w u) H1 → va_S A0 H0 H1 locs1 → W p l e R s m args below meth c H1 locs1 cells slots Q (F0 m (pc + 3) ls (.int r :: rest))) : W p l e R s m args below meth c H locs cells slots Q (F0 m pc ls st0) :=
  va_calli (va_runV F hM cw ⟨kk_blind, hrecv, kk_pre hP hK⟩ rfl hn hsize hstack (lv_room hW) hdg hf) hS (fun q _ h => hA q h) hA (fun r u t H1 locs1 ht hvm hp hB _ _ hS1 => kk r u H1 locs1 hp (by rw [← ht]; exact hB.1) hS1)
theorem kk_cl {post : Int64 → Sg → Prop} (F : CallFix p m c cc nL s args Ts own) (hM : Met l y ws rm (kk_Pc D cl tys (w S) (.ref b :: As)) (va_Ql post (kk_B D cl tys w) A1) 0 0 A1) (cw : CallW R s args own C index y bytes maxL ret ws rm 0 0 n) (hrecv : ∃ cellB : Cell, H[b]? = some cellB ∧ cellB.vm.isStatics = false ∧ s.vm.findClass C = some cellB.cls)
    (hP : va_P D cl (w S) H) (hK : va_K D cl tys s) (hS : va_S A0 H0 H locs) (hA : ∀ q, A1 q → A0 q) (hn : As.length = n) (hsize : ls.size = nL) (hstack : st0 = As.reverse ++ .ref b :: rest) (hW : (rest.map fun v => v.category).sum ≤ 8) (hdg : decode cc pc = .ok (.invokevirtual index, 3)) (hf : cells ≤ R.cells ∧ slots ≤ R.slots)
    (kk : ∀ (r : Int64) (u : Sg) (H1 : Heap) (locs1 : List Loc), post r u → va_P D cl (w u) H1 → va_S A0 H0 H1 locs1 → W p l e R s m args below meth c H1 locs1 cells slots Q (F0 m (pc + 3) ls (.long r :: rest))) : W p l e R s m args below meth c H locs cells slots Q (F0 m pc ls st0) :=
  va_calll (va_runV F hM cw ⟨kk_blind, hrecv, kk_pre hP hK⟩ rfl hn hsize hstack (lv_room hW) hdg hf) hS (fun q _ h => hA q h) hA (fun r u t H1 locs1 ht hvm hp hB _ _ hS1 => kk r u H1 locs1 hp (by rw [← ht]; exact hB.1) hS1)
theorem kk_cv {post : Sg → Prop} (F : CallFix p m c cc nL s args Ts own) (hM : Met l y ws rm (kk_Pc D cl tys (w S) (.ref b :: As)) (va_Qv post (kk_B D cl tys w) A1) 0 0 A1) (cw : CallW R s args own C index y bytes maxL ret ws rm 0 0 n) (hrecv : ∃ cellB : Cell, H[b]? = some cellB ∧ cellB.vm.isStatics = false ∧ s.vm.findClass C = some cellB.cls)
    (hP : va_P D cl (w S) H) (hK : va_K D cl tys s) (hS : va_S A0 H0 H locs) (hA : ∀ q, A1 q → A0 q) (hn : As.length = n) (hsize : ls.size = nL) (hstack : st0 = As.reverse ++ .ref b :: rest) (hW : (rest.map fun v => v.category).sum ≤ 8) (hdg : decode cc pc = .ok (.invokevirtual index, 3)) (hf : cells ≤ R.cells ∧ slots ≤ R.slots)
    (kk : ∀ (u : Sg) (H1 : Heap) (locs1 : List Loc), post u → va_P D cl (w u) H1 → va_S A0 H0 H1 locs1 → W p l e R s m args below meth c H1 locs1 cells slots Q (F0 m (pc + 3) ls rest)) : W p l e R s m args below meth c H locs cells slots Q (F0 m pc ls st0) :=
  va_callv (va_runV F hM cw ⟨kk_blind, hrecv, kk_pre hP hK⟩ rfl hn hsize hstack (lv_room hW) hdg hf) hS (fun q _ h => hA q h) hA (fun u t H1 locs1 ht hvm hp hB _ _ hS1 => kk u H1 locs1 hp (by rw [← ht]; exact hB.1) hS1)
/-- an answer that is one of a row of objects, or null -/
theorem kk_co {ad : Nat → Nat} {post : Option Nat → Sg → Prop} (F : CallFix p m c cc nL s args Ts own) (hM : Met l y ws rm (kk_Pc D cl tys (w S) (.ref b :: As)) (va_Qe ad post (kk_B D cl tys w) A1) 0 0 A1) (cw : CallW R s args own C index y bytes maxL ret ws rm 0 0 n) (hrecv : ∃ cellB : Cell, H[b]? = some cellB ∧ cellB.vm.isStatics = false ∧ s.vm.findClass C = some cellB.cls)
    (hP : va_P D cl (w S) H) (hK : va_K D cl tys s) (hS : va_S A0 H0 H locs) (hA : ∀ q, A1 q → A0 q) (hn : As.length = n) (hsize : ls.size = nL) (hstack : st0 = As.reverse ++ .ref b :: rest) (hW : (rest.map fun v => v.category).sum ≤ 8) (hdg : decode cc pc = .ok (.invokevirtual index, 3)) (hf : cells ≤ R.cells ∧ slots ≤ R.slots)
    (kn : ∀ (u : Sg) (H1 : Heap) (locs1 : List Loc), post none u → va_P D cl (w u) H1 → va_S A0 H0 H1 locs1 → W p l e R s m args below meth c H1 locs1 cells slots Q (F0 m (pc + 3) ls (.null :: rest)))
    (ks : ∀ (t : Nat) (u : Sg) (H1 : Heap) (locs1 : List Loc), post (some t) u → va_P D cl (w u) H1 → va_S A0 H0 H1 locs1 → W p l e R s m args below meth c H1 locs1 cells slots Q (F0 m (pc + 3) ls (.ref (ad t) :: rest))) : W p l e R s m args below meth c H locs cells slots Q (F0 m pc ls st0) :=
  va_calle (va_runV F hM cw ⟨kk_blind, hrecv, kk_pre hP hK⟩ rfl hn hsize hstack (lv_room hW) hdg hf) hS (fun q _ h => hA q h) hA (fun r u t H1 locs1 ht hvm hp hB _ _ hS1 => by
    cases r with
    | none => exact kn u H1 locs1 hp (by rw [← ht]; exact hB.1) hS1
    | some a => exact ks a u H1 locs1 hp (by rw [← ht]; exact hB.1) hS1)
/-- a static method that has no world: an int out of ints -/
def kk_P0 (av : List Value) : Array Value → State → Prop := va_Pc av (fun _ => True)
theorem kk_cs {r0 : Int32} (F : CallFix p m c cc nL s args Ts own) (hM : Met l y ws rm (kk_P0 As) (va_Qi (fun r (_ : Unit) => r = r0) (fun _ _ => True) (fun _ => False)) 0 0 (fun _ => False)) (cw : CallB R s args own index y bytes maxL ret ws rm 0 0 n ∧ (Cond.static y).before args s = true)
    (hP : va_P D cl (w S) H) (hS : va_S A0 H0 H locs) (hn : As.length = n) (hsize : ls.size = nL) (hstack : st0 = As.reverse ++ rest) (hW : (rest.map fun v => v.category).sum ≤ 8) (hdg : decode cc pc = .ok (.invokestatic index, 3)) (hf : cells ≤ R.cells ∧ slots ≤ R.slots)
    (kk : ∀ (H1 : Heap) (locs1 : List Loc), va_P D cl (w S) H1 → va_S A0 H0 H1 locs1 → W p l e R s m args below meth c H1 locs1 cells slots Q (F0 m (pc + 3) ls (.int r0 :: rest))) : W p l e R s m args below meth c H locs cells slots Q (F0 m pc ls st0) :=
  va_calli (va_runS F hM cw ⟨fun _ _ _ _ q => q, fun U hU hW => ⟨rfl, trivial⟩⟩ rfl hn hsize hstack (lv_room hW) hdg hf) hS (fun q _ h => h.elim) (fun q h => h.elim) (fun r u t H1 locs1 ht hvm hp hB hz hk hS1 => by
    subst hp
    exact kk H1 locs1 (hP.kept (fun k q hq => hk q.1 ((hP k q hq).lt) (fun h => h))) hS1)
theorem kk_cp {r0 : Int32} (F : CallFix p m c cc nL s args Ts own) (hM : Met l y ws rm (kk_P0 (.ref b :: As)) (va_Qi (fun r (_ : Unit) => r = r0) (fun _ _ => True) (fun _ => False)) 0 0 (fun _ => False)) (cw : CallW R s args own C index y bytes maxL ret ws rm 0 0 n) (hrecv : ∃ cellB : Cell, H[b]? = some cellB ∧ cellB.vm.isStatics = false ∧ s.vm.findClass C = some cellB.cls)
    (hP : va_P D cl (w S) H) (hS : va_S A0 H0 H locs) (hn : As.length = n) (hsize : ls.size = nL) (hstack : st0 = As.reverse ++ .ref b :: rest) (hW : (rest.map fun v => v.category).sum ≤ 8) (hdg : decode cc pc = .ok (.invokevirtual index, 3)) (hf : cells ≤ R.cells ∧ slots ≤ R.slots)
    (kk : ∀ (H1 : Heap) (locs1 : List Loc), va_P D cl (w S) H1 → va_S A0 H0 H1 locs1 → W p l e R s m args below meth c H1 locs1 cells slots Q (F0 m (pc + 3) ls (.int r0 :: rest))) : W p l e R s m args below meth c H locs cells slots Q (F0 m pc ls st0) :=
  va_calli (va_runV F hM cw ⟨fun _ _ _ _ q => q, hrecv, fun U hU hW => ⟨rfl, trivial⟩⟩ rfl hn hsize hstack (lv_room hW) hdg hf) hS (fun q _ h => h.elim) (fun q h => h.elim) (fun r u t H1 locs1 ht hvm hp hB hz hk hS1 => by
    subst hp
    exact kk H1 locs1 (hP.kept (fun k q hq => hk q.1 ((hP k q hq).lt) (fun h => h))) hS1)
theorem kk_iret {post : Int32 → Sg → Prop} {v : Int32} (hx : p.tables.exec = Jvm.exec) (hb : c.code = cc) (hr : meth.sig.returnType = some .int) (hlocks : meth.locks = false) (hP : va_P D cl (w S) H) (hK : va_K D cl tys s) (hS : va_S A1 s.heap H locs) (hpost : post v S) (hdg : decode cc pc = .ok (.ireturn, 1)) : W p l e R s m args below meth c H locs cells slots (MQ below (va_Qi post (kk_B D cl tys w) A1) args s cells slots A1) (F0 m pc ls [.int v]) :=
  W.iret hx hb hr (fun t ht hW => ⟨⟨v, S, rfl, hpost, by rw [ht]; exact hP, va_K.moved hW.alike hK⟩, hS.F ht⟩) hS.2.2 hdg hlocks
theorem kk_zret {post : Int32 → Sg → Prop} {v : Int32} (hx : p.tables.exec = Jvm.exec) (hb : c.code = cc) (hr : meth.sig.returnType = some .boolean) (hlocks : meth.locks = false) (hn : narrow .boolean (.int v) = .int v) (hP : va_P D cl (w S) H) (hK : va_K D cl tys s) (hS : va_S A1 s.heap H locs) (hpost : post v S) (hdg : decode cc pc = .ok (.ireturn, 1)) : W p l e R s m args below meth c H locs cells slots (MQ below (va_Qi post (kk_B D cl tys w) A1) args s cells slots A1) (F0 m pc ls [.int v]) :=
  W.zret hx hb hr hn (fun t ht hW => ⟨⟨v, S, rfl, hpost, by rw [ht]; exact hP, va_K.moved hW.alike hK⟩, hS.F ht⟩) hS.2.2 hdg hlocks
theorem kk_lret {post : Int64 → Sg → Prop} {v : Int64} (hx : p.tables.exec = Jvm.exec) (hb : c.code = cc) (hr : meth.sig.returnType = some .long) (hlocks : meth.locks = false) (hP : va_P D cl (w S) H) (hK : va_K D cl tys s) (hS : va_S A1 s.heap H locs) (hpost : post v S) (hdg : decode cc pc = .ok (.lreturn, 1)) : W p l e R s m args below meth c H locs cells slots (MQ below (va_Ql post (kk_B D cl tys w) A1) args s cells slots A1) (F0 m pc ls [.long v]) :=
  W.lret hx hb hr (fun t ht hW => ⟨⟨v, S, rfl, hpost, by rw [ht]; exact hP, va_K.moved hW.alike hK⟩, hS.F ht⟩) hS.2.2 hdg hlocks
theorem kk_vret {post : Sg → Prop} (hx : p.tables.exec = Jvm.exec) (hb : c.code = cc) (hr : meth.sig.returnType = none) (hlocks : meth.locks = false) (hP : va_P D cl (w S) H) (hK : va_K D cl tys s) (hS : va_S A1 s.heap H locs) (hpost : post S) (hdg : decode cc pc = .ok (.return_, 1)) : W p l e R s m args below meth c H locs cells slots (MQ below (va_Qv post (kk_B D cl tys w) A1) args s cells slots A1) (F0 m pc ls []) :=
  W.vret hx hb hr (fun t ht hW => ⟨⟨S, rfl, hpost, by rw [ht]; exact hP, va_K.moved hW.alike hK⟩, hS.F ht⟩) hS.2.2 hdg hlocks
theorem kk_nret {ad : Nat → Nat} {post : Option Nat → Sg → Prop} {rn : String} (hx : p.tables.exec = Jvm.exec) (hb : c.code = cc) (hr : meth.sig.returnType = some (.object rn)) (hlocks : meth.locks = false) (hP : va_P D cl (w S) H) (hK : va_K D cl tys s) (hS : va_S A1 s.heap H locs) (hpost : post none S) (hdg : decode cc pc = .ok (.areturn, 1)) : W p l e R s m args below meth c H locs cells slots (MQ below (va_Qe ad post (kk_B D cl tys w) A1) args s cells slots A1) (F0 m pc ls [.null]) :=
  W.aret hx hb hr (Or.inl ⟨_, rfl⟩) (Or.inl rfl) (fun t ht hW => ⟨⟨none, S, rfl, hpost, by rw [ht]; exact hP, va_K.moved hW.alike hK⟩, hS.F ht⟩) hS.2.2 hdg hlocks
theorem kk_aret {ad : Nat → Nat} {post : Option Nat → Sg → Prop} {rn : String} {t : Nat} (hx : p.tables.exec = Jvm.exec) (hb : c.code = cc) (hr : meth.sig.returnType = some (.object rn)) (hlocks : meth.locks = false) (hP : va_P D cl (w S) H) (hK : va_K D cl tys s) (hS : va_S A1 s.heap H locs) (hpost : post (some t) S) (hdg : decode cc pc = .ok (.areturn, 1)) : W p l e R s m args below meth c H locs cells slots (MQ below (va_Qe ad post (kk_B D cl tys w) A1) args s cells slots A1) (F0 m pc ls [.ref (ad t)]) :=
  W.aret hx hb hr (Or.inl ⟨_, rfl⟩) (Or.inr ⟨_, rfl⟩) (fun t1 ht hW => ⟨⟨some t, S, rfl, hpost, by rw [ht]; exact hP, va_K.moved hW.alike hK⟩, hS.F ht⟩) hS.2.2 hdg hlocks
theorem kk_pret {r0 : Int32} {v : Int32} {ty : FieldType} (hx : p.tables.exec = Jvm.exec) (hb : c.code = cc) (hr : meth.sig.returnType = some ty) (hlocks : meth.locks = false) (hn : narrow ty (.int v) = .int v) (hv : v = r0) (hdg : decode cc pc = .ok (.ireturn, 1)) : W p l e R s m args below meth c s.heap [] cells slots (MQ below (va_Qi (fun r (_ : Unit) => r = r0) (fun _ _ => True) (fun _ => False)) args s cells slots (fun _ => False)) (F0 m pc ls [.int v]) :=
  W.zret hx hb hr hn (fun t ht hW => ⟨⟨v, (), rfl, hv, trivial⟩, Nat.le_of_eq (by rw [ht]), fun q _ _ => by rw [ht]⟩) (fun q h => by cases h) hdg hlocks
end KK
/-- a pair is taken apart; a value gets a name; a row's member or none -/
def kk_b {α β γ : Type} (p : α × β) (k : α → β → γ) : γ := k p.1 p.2
theorem kk_b_eq {α β γ : Type} {p : α × β} {k : α → β → γ} {a : α} {b : β} (h : p = (a, b)) : kk_b p k = k a b := by rw [h]; rfl
def kk_v {α γ : Type} (x : α) (k : α → γ) : γ := k x
theorem kk_v_eq {α γ : Type} {x : α} {k : α → γ} {a : α} (h : x = a) : kk_v x k = k a := by rw [h]; rfl
def kk_o {γ : Type} (o : Option Nat) (a : γ) (k : Nat → γ) : γ := match o with
  | none => a
  | some t => k t
theorem kk_o_none {γ : Type} {a : γ} {k : Nat → γ} : kk_o none a k = a := rfl
theorem kk_o_some {γ : Type} {a : γ} {k : Nat → γ} {t : Nat} : kk_o (some t) a k = k t := rfl
def kk_rv (ad : Nat → Nat) (o : Option Nat) : Value := match o with
  | none => .null
  | some t => .ref (ad t)
end
section
/-! the states of the class (kx) and of the reference (km), as functions; the cells that hold them -/
abbrev kx_S : Type := (Nat → Nat → Int32) × (Nat → Nat → Int64)
def kI (S : kx_S) (f i : Nat) : Int32 := S.1 f i
def kJ (S : kx_S) (f i : Nat) : Int64 := S.2 f i
def sI (S : kx_S) (f i : Nat) (v : Int32) : kx_S := (fun a => if a = f then upd (S.1 f) i v else S.1 a, S.2)
def sJ (S : kx_S) (f i : Nat) (v : Int64) : kx_S := (S.1, fun a => if a = f then vp_updL (S.2 f) i v else S.2 a)
theorem kI_sI {S : kx_S} {f i a b : Nat} {v : Int32} : kI (sI S f i v) a b = if a = f ∧ b = i then v else kI S a b := by
  unfold kI sI upd
  by_cases h : a = f
  · subst h
    by_cases h2 : b = i <;> simp [h2]
  · simp [h]
theorem kI_sJ {S : kx_S} {f i a b : Nat} {v : Int64} : kI (sJ S f i v) a b = kI S a b := rfl
theorem kJ_sI {S : kx_S} {f i a b : Nat} {v : Int32} : kJ (sI S f i v) a b = kJ S a b := rfl
theorem kJ_sJ {S : kx_S} {f i a b : Nat} {v : Int64} : kJ (sJ S f i v) a b = if a = f ∧ b = i then v else kJ S a b := by
  unfold kJ sJ vp_updL
  by_cases h : a = f
  · subst h
    by_cases h2 : b = i <;> simp [h2]
  · simp [h]
def kx_ta (ad : Nat → Nat) (t : Nat) : Nat := ad (11 + t)
def kx_qa (ad : Nat → Nat) (q : Nat) : Nat := ad (5 + q)

def kx_tf (S : kx_S) (t : Nat) : List Value := [.int (nI t), .int (kI S 10 t), .int (kI S 11 t), .int (kI S 12 t), .int (kI S 13 t), .int (kI S 14 t), .int (kI S 15 t), .long (kJ S 0 t), .int (kI S 16 t), .long (kJ S 1 t), .int (kI S 17 t), .int (kI S 18 t), .int (kI S 19 t), .int (kI S 20 t)]
def kx_h (ad : Nat → Nat) (cs : Nat → ClassId) (S : kx_S) : va_W := [(ad 0, .inr (2, [.int (kI S 0 0), .int (kI S 1 0), .ref (ad 1), .ref (ad 2), .ref (ad 3), .ref (ad 4), .int (kI S 2 0), .long (kJ S 2 0)])), (ad 1, .inl (cs 1, 8, .inr (.inr (.inr (.inr (fun i => if i < 8 then some (kx_ta ad i) else none)))))), (ad 2, .inl (cs 2, 4, .inl (kI S 3))), (ad 3, .inl (cs 3, 2, .inl (kI S 4))), (ad 4, .inl (cs 4, 2, .inr (.inr (.inr (.inr (fun i => if i < 2 then some (kx_qa ad i) else none)))))), (ad 5, .inr (0, [.ref (ad 7), .ref (ad 9), .int (kI S 9 0)])), (ad 6, .inr (0, [.ref (ad 8), .ref (ad 10), .int (kI S 9 1)])), (ad 7, .inl (cs 7, 4, .inl (kI S 5))), (ad 8, .inl (cs 8, 4, .inl (kI S 6))), (ad 9, .inl (cs 9, 4, .inl (kI S 7))), (ad 10, .inl (cs 10, 4, .inl (kI S 8)))]
def kx_w (ad : Nat → Nat) (cs : Nat → ClassId) (S : kx_S) : va_W := kx_h ad cs S ++ (List.range 8).map (fun t => (kx_ta ad t, .inr (1, kx_tf S t)))
def kx_t (cs : Nat → ClassId) : List (ClassId × FieldType) := [(cs 1, .object R_T), (cs 2, .int), (cs 3, .int), (cs 4, .object R_Q), (cs 7, .int), (cs 8, .int), (cs 9, .int), (cs 10, .int)]
def kx_inj (ad : Nat → Nat) : Prop := ∀ i j, i < 19 → j < 19 → ad i = ad j → i = j
def kx_A (ad : Nat → Nat) (q : Nat) : Prop := ∃ k, k < 19 ∧ q = ad k
theorem kx_len (ad : Nat → Nat) (cs : Nat → ClassId) (S : kx_S) : (kx_w ad cs S).length = 19 := rfl
theorem kx_adr {ad : Nat → Nat} {cs : Nat → ClassId} {S : kx_S} : ∀ (k : Nat) (q : Nat × va_E), (kx_w ad cs S)[k]? = some q → k < 19 ∧ q.1 = ad k
  | 0, q, h => by have e := Option.some.inj h; subst e; exact ⟨by decide, rfl⟩
  | 1, q, h => by have e := Option.some.inj h; subst e; exact ⟨by decide, rfl⟩
  | 2, q, h => by have e := Option.some.inj h; subst e; exact ⟨by decide, rfl⟩
  | 3, q, h => by have e := Option.some.inj h; subst e; exact ⟨by decide, rfl⟩
  | 4, q, h => by have e := Option.some.inj h; subst e; exact ⟨by decide, rfl⟩
  | 5, q, h => by have e := Option.some.inj h; subst e; exact ⟨by decide, rfl⟩
  | 6, q, h => by have e := Option.some.inj h; subst e; exact ⟨by decide, rfl⟩
  | 7, q, h => by have e := Option.some.inj h; subst e; exact ⟨by decide, rfl⟩
  | 8, q, h => by have e := Option.some.inj h; subst e; exact ⟨by decide, rfl⟩
  | 9, q, h => by have e := Option.some.inj h; subst e; exact ⟨by decide, rfl⟩
  | 10, q, h => by have e := Option.some.inj h; subst e; exact ⟨by decide, rfl⟩
  | 11, q, h => by have e := Option.some.inj h; subst e; exact ⟨by decide, rfl⟩
  | 12, q, h => by have e := Option.some.inj h; subst e; exact ⟨by decide, rfl⟩
  | 13, q, h => by have e := Option.some.inj h; subst e; exact ⟨by decide, rfl⟩
  | 14, q, h => by have e := Option.some.inj h; subst e; exact ⟨by decide, rfl⟩
  | 15, q, h => by have e := Option.some.inj h; subst e; exact ⟨by decide, rfl⟩
  | 16, q, h => by have e := Option.some.inj h; subst e; exact ⟨by decide, rfl⟩
  | 17, q, h => by have e := Option.some.inj h; subst e; exact ⟨by decide, rfl⟩
  | 18, q, h => by have e := Option.some.inj h; subst e; exact ⟨by decide, rfl⟩
  | k + 19, q, h => by have h2 := (List.getElem?_eq_some_iff.mp h).1; rw [kx_len] at h2; omega
theorem kx_D {ad : Nat → Nat} (hj : kx_inj ad) {cs : Nat → ClassId} {S : kx_S} : va_D (kx_A ad) (kx_w ad cs S) := by
  refine ⟨fun i j p q hi hj2 e => ?_, fun k q hk => ⟨k, (kx_adr k q hk).1, (kx_adr k q hk).2⟩⟩
  obtain ⟨h1, h2⟩ := kx_adr i p hi
  obtain ⟨h3, h4⟩ := kx_adr j q hj2
  exact hj i j h1 h3 (by rw [← h2, ← h4, e])
theorem kx_wT {ad : Nat → Nat} {cs : Nat → ClassId} {S : kx_S} : ∀ {t : Nat}, t < 8 → (kx_w ad cs S)[11 + t]? = some (kx_ta ad t, .inr (1, kx_tf S t))
  | 0, _ => rfl
  | 1, _ => rfl
  | 2, _ => rfl
  | 3, _ => rfl
  | 4, _ => rfl
  | 5, _ => rfl
  | 6, _ => rfl
  | 7, _ => rfl
  | t + 8, h => by omega
theorem kk_rset {α : Type} (g : Nat → α) (n t : Nat) (x : α) : ((List.range n).map g).set t x = (List.range n).map (fun j => if j = t then x else g j) := by
  apply List.ext_getElem?
  intro j
  rw [List.getElem?_set]
  by_cases hj : j < n
  · by_cases ht : t = j
    · subst ht
      simp [hj]
    · have ht2 : ¬ j = t := fun h => ht h.symm
      simp [hj, ht, ht2]
  · by_cases ht : t = j
    · subst ht
      simp [hj]
    · simp [hj, ht]
theorem kx_uT {ad : Nat → Nat} {cs : Nat → ClassId} {S S2 : kx_S} {t k : Nat} {v : Value} (hh : kx_h ad cs S2 = kx_h ad cs S) (h1 : kx_tf S2 t = (kx_tf S t).set k v) (h2 : ∀ j, j ≠ t → kx_tf S2 j = kx_tf S j) : (kx_w ad cs S).set (11 + t) (kx_ta ad t, .inr (1, (kx_tf S t).set k v)) = kx_w ad cs S2 := by
  unfold kx_w
  rw [hh, List.set_append_right _ _ (by show 11 ≤ 11 + t; omega), show 11 + t - (kx_h ad cs S).length = t from by show 11 + t - 11 = t; omega, kk_rset]
  congr 1
  apply List.map_congr_left
  intro j _
  by_cases hj : j = t
  · subst hj
    simp [h1]
  · simp [hj, h2 j hj]
theorem kx_u_state {D : va_G} {cl : List vw_C} {H : Heap} {ad : Nat → Nat} {cs : Nat → ClassId} {S : kx_S} {t : Nat} {v : Int32} (_ : t < 8) (h : va_P D cl ((kx_w ad cs S).set (11 + t) (kx_ta ad t, .inr (1, (kx_tf S t).set 1 (.int v)))) H) : va_P D cl (kx_w ad cs (sI S 10 t v)) H := by
  rw [kx_uT (ad := ad) (cs := cs) (S := S) (S2 := sI S 10 t v) (t := t) (k := 1) (v := .int v) rfl (by simp [kx_tf, kI_sI, kI_sJ, kJ_sI, kJ_sJ]) (fun j hj => by simp [kx_tf, kI_sI, kI_sJ, kJ_sI, kJ_sJ, hj])] at h
  exact h
theorem kx_u_base {D : va_G} {cl : List vw_C} {H : Heap} {ad : Nat → Nat} {cs : Nat → ClassId} {S : kx_S} {t : Nat} {v : Int32} (_ : t < 8) (h : va_P D cl ((kx_w ad cs S).set (11 + t) (kx_ta ad t, .inr (1, (kx_tf S t).set 2 (.int v)))) H) : va_P D cl (kx_w ad cs (sI S 11 t v)) H := by
  rw [kx_uT (ad := ad) (cs := cs) (S := S) (S2 := sI S 11 t v) (t := t) (k := 2) (v := .int v) rfl (by simp [kx_tf, kI_sI, kI_sJ, kJ_sI, kJ_sJ]) (fun j hj => by simp [kx_tf, kI_sI, kI_sJ, kJ_sI, kJ_sJ, hj])] at h
  exact h
theorem kx_u_effective {D : va_G} {cl : List vw_C} {H : Heap} {ad : Nat → Nat} {cs : Nat → ClassId} {S : kx_S} {t : Nat} {v : Int32} (_ : t < 8) (h : va_P D cl ((kx_w ad cs S).set (11 + t) (kx_ta ad t, .inr (1, (kx_tf S t).set 3 (.int v)))) H) : va_P D cl (kx_w ad cs (sI S 12 t v)) H := by
  rw [kx_uT (ad := ad) (cs := cs) (S := S) (S2 := sI S 12 t v) (t := t) (k := 3) (v := .int v) rfl (by simp [kx_tf, kI_sI, kI_sJ, kJ_sI, kJ_sJ]) (fun j hj => by simp [kx_tf, kI_sI, kI_sJ, kJ_sI, kJ_sJ, hj])] at h
  exact h
theorem kx_u_sliced {D : va_G} {cl : List vw_C} {H : Heap} {ad : Nat → Nat} {cs : Nat → ClassId} {S : kx_S} {t : Nat} {v : Int32} (_ : t < 8) (h : va_P D cl ((kx_w ad cs S).set (11 + t) (kx_ta ad t, .inr (1, (kx_tf S t).set 4 (.int v)))) H) : va_P D cl (kx_w ad cs (sI S 13 t v)) H := by
  rw [kx_uT (ad := ad) (cs := cs) (S := S) (S2 := sI S 13 t v) (t := t) (k := 4) (v := .int v) rfl (by simp [kx_tf, kI_sI, kI_sJ, kJ_sI, kJ_sJ]) (fun j hj => by simp [kx_tf, kI_sI, kI_sJ, kJ_sI, kJ_sJ, hj])] at h
  exact h
theorem kx_u_used {D : va_G} {cl : List vw_C} {H : Heap} {ad : Nat → Nat} {cs : Nat → ClassId} {S : kx_S} {t : Nat} {v : Int32} (_ : t < 8) (h : va_P D cl ((kx_w ad cs S).set (11 + t) (kx_ta ad t, .inr (1, (kx_tf S t).set 5 (.int v)))) H) : va_P D cl (kx_w ad cs (sI S 14 t v)) H := by
  rw [kx_uT (ad := ad) (cs := cs) (S := S) (S2 := sI S 14 t v) (t := t) (k := 5) (v := .int v) rfl (by simp [kx_tf, kI_sI, kI_sJ, kJ_sI, kJ_sJ]) (fun j hj => by simp [kx_tf, kI_sI, kI_sJ, kJ_sI, kJ_sJ, hj])] at h
  exact h
theorem kx_u_result {D : va_G} {cl : List vw_C} {H : Heap} {ad : Nat → Nat} {cs : Nat → ClassId} {S : kx_S} {t : Nat} {v : Int32} (_ : t < 8) (h : va_P D cl ((kx_w ad cs S).set (11 + t) (kx_ta ad t, .inr (1, (kx_tf S t).set 6 (.int v)))) H) : va_P D cl (kx_w ad cs (sI S 15 t v)) H := by
  rw [kx_uT (ad := ad) (cs := cs) (S := S) (S2 := sI S 15 t v) (t := t) (k := 6) (v := .int v) rfl (by simp [kx_tf, kI_sI, kI_sJ, kJ_sI, kJ_sJ]) (fun j hj => by simp [kx_tf, kI_sI, kI_sJ, kJ_sI, kJ_sJ, hj])] at h
  exact h
theorem kx_u_since {D : va_G} {cl : List vw_C} {H : Heap} {ad : Nat → Nat} {cs : Nat → ClassId} {S : kx_S} {t : Nat} {v : Int64} (_ : t < 8) (h : va_P D cl ((kx_w ad cs S).set (11 + t) (kx_ta ad t, .inr (1, (kx_tf S t).set 7 (.long v)))) H) : va_P D cl (kx_w ad cs (sJ S 0 t v)) H := by
  rw [kx_uT (ad := ad) (cs := cs) (S := S) (S2 := sJ S 0 t v) (t := t) (k := 7) (v := .long v) rfl (by simp [kx_tf, kI_sI, kI_sJ, kJ_sI, kJ_sJ]) (fun j hj => by simp [kx_tf, kI_sI, kI_sJ, kJ_sI, kJ_sJ, hj])] at h
  exact h
theorem kx_u_waitsOn {D : va_G} {cl : List vw_C} {H : Heap} {ad : Nat → Nat} {cs : Nat → ClassId} {S : kx_S} {t : Nat} {v : Int32} (_ : t < 8) (h : va_P D cl ((kx_w ad cs S).set (11 + t) (kx_ta ad t, .inr (1, (kx_tf S t).set 8 (.int v)))) H) : va_P D cl (kx_w ad cs (sI S 16 t v)) H := by
  rw [kx_uT (ad := ad) (cs := cs) (S := S) (S2 := sI S 16 t v) (t := t) (k := 8) (v := .int v) rfl (by simp [kx_tf, kI_sI, kI_sJ, kJ_sI, kJ_sJ]) (fun j hj => by simp [kx_tf, kI_sI, kI_sJ, kJ_sI, kJ_sJ, hj])] at h
  exact h
theorem kx_u_deadline {D : va_G} {cl : List vw_C} {H : Heap} {ad : Nat → Nat} {cs : Nat → ClassId} {S : kx_S} {t : Nat} {v : Int64} (_ : t < 8) (h : va_P D cl ((kx_w ad cs S).set (11 + t) (kx_ta ad t, .inr (1, (kx_tf S t).set 9 (.long v)))) H) : va_P D cl (kx_w ad cs (sJ S 1 t v)) H := by
  rw [kx_uT (ad := ad) (cs := cs) (S := S) (S2 := sJ S 1 t v) (t := t) (k := 9) (v := .long v) rfl (by simp [kx_tf, kI_sI, kI_sJ, kJ_sI, kJ_sJ]) (fun j hj => by simp [kx_tf, kI_sI, kI_sJ, kJ_sI, kJ_sJ, hj])] at h
  exact h
theorem kx_u_mutexInMind {D : va_G} {cl : List vw_C} {H : Heap} {ad : Nat → Nat} {cs : Nat → ClassId} {S : kx_S} {t : Nat} {v : Int32} (_ : t < 8) (h : va_P D cl ((kx_w ad cs S).set (11 + t) (kx_ta ad t, .inr (1, (kx_tf S t).set 10 (.int v)))) H) : va_P D cl (kx_w ad cs (sI S 17 t v)) H := by
  rw [kx_uT (ad := ad) (cs := cs) (S := S) (S2 := sI S 17 t v) (t := t) (k := 10) (v := .int v) rfl (by simp [kx_tf, kI_sI, kI_sJ, kJ_sI, kJ_sJ]) (fun j hj => by simp [kx_tf, kI_sI, kI_sJ, kJ_sI, kJ_sJ, hj])] at h
  exact h
theorem kx_u_resultWhenOwning {D : va_G} {cl : List vw_C} {H : Heap} {ad : Nat → Nat} {cs : Nat → ClassId} {S : kx_S} {t : Nat} {v : Int32} (_ : t < 8) (h : va_P D cl ((kx_w ad cs S).set (11 + t) (kx_ta ad t, .inr (1, (kx_tf S t).set 11 (.int v)))) H) : va_P D cl (kx_w ad cs (sI S 18 t v)) H := by
  rw [kx_uT (ad := ad) (cs := cs) (S := S) (S2 := sI S 18 t v) (t := t) (k := 11) (v := .int v) rfl (by simp [kx_tf, kI_sI, kI_sJ, kJ_sI, kJ_sJ]) (fun j hj => by simp [kx_tf, kI_sI, kI_sJ, kJ_sI, kJ_sJ, hj])] at h
  exact h
theorem kx_u_rank {D : va_G} {cl : List vw_C} {H : Heap} {ad : Nat → Nat} {cs : Nat → ClassId} {S : kx_S} {t : Nat} {v : Int32} (_ : t < 8) (h : va_P D cl ((kx_w ad cs S).set (11 + t) (kx_ta ad t, .inr (1, (kx_tf S t).set 12 (.int v)))) H) : va_P D cl (kx_w ad cs (sI S 19 t v)) H := by
  rw [kx_uT (ad := ad) (cs := cs) (S := S) (S2 := sI S 19 t v) (t := t) (k := 12) (v := .int v) rfl (by simp [kx_tf, kI_sI, kI_sJ, kJ_sI, kJ_sJ]) (fun j hj => by simp [kx_tf, kI_sI, kI_sJ, kJ_sI, kJ_sJ, hj])] at h
  exact h
theorem kx_u_value {D : va_G} {cl : List vw_C} {H : Heap} {ad : Nat → Nat} {cs : Nat → ClassId} {S : kx_S} {t : Nat} {v : Int32} (_ : t < 8) (h : va_P D cl ((kx_w ad cs S).set (11 + t) (kx_ta ad t, .inr (1, (kx_tf S t).set 13 (.int v)))) H) : va_P D cl (kx_w ad cs (sI S 20 t v)) H := by
  rw [kx_uT (ad := ad) (cs := cs) (S := S) (S2 := sI S 20 t v) (t := t) (k := 13) (v := .int v) rfl (by simp [kx_tf, kI_sI, kI_sJ, kJ_sI, kJ_sJ]) (fun j hj => by simp [kx_tf, kI_sI, kI_sJ, kJ_sI, kJ_sJ, hj])] at h
  exact h
theorem kx_u_time {D : va_G} {cl : List vw_C} {H : Heap} {ad : Nat → Nat} {cs : Nat → ClassId} {S : kx_S} {v : Int32} (h : va_P D cl ((kx_w ad cs S).set 0 (ad 0, .inr (2, [.int (kI S 0 0), .int (kI S 1 0), .ref (ad 1), .ref (ad 2), .ref (ad 3), .ref (ad 4), .int (kI S 2 0), .long (kJ S 2 0)].set 6 (.int v)))) H) : va_P D cl (kx_w ad cs (sI S 2 0 v)) H := h
theorem kx_u_lastMoment {D : va_G} {cl : List vw_C} {H : Heap} {ad : Nat → Nat} {cs : Nat → ClassId} {S : kx_S} {v : Int64} (h : va_P D cl ((kx_w ad cs S).set 0 (ad 0, .inr (2, [.int (kI S 0 0), .int (kI S 1 0), .ref (ad 1), .ref (ad 2), .ref (ad 3), .ref (ad 4), .int (kI S 2 0), .long (kJ S 2 0)].set 7 (.long v)))) H) : va_P D cl (kx_w ad cs (sJ S 2 0 v)) H := h
theorem kx_u_size0 {D : va_G} {cl : List vw_C} {H : Heap} {ad : Nat → Nat} {cs : Nat → ClassId} {S : kx_S} {v : Int32} (h : va_P D cl ((kx_w ad cs S).set 5 (ad 5, .inr (0, [.ref (ad 7), .ref (ad 9), .int (kI S 9 0)].set 2 (.int v)))) H) : va_P D cl (kx_w ad cs (sI S 9 0 v)) H := h
theorem kx_u_size1 {D : va_G} {cl : List vw_C} {H : Heap} {ad : Nat → Nat} {cs : Nat → ClassId} {S : kx_S} {v : Int32} (h : va_P D cl ((kx_w ad cs S).set 6 (ad 6, .inr (0, [.ref (ad 8), .ref (ad 10), .int (kI S 9 1)].set 2 (.int v)))) H) : va_P D cl (kx_w ad cs (sI S 9 1 v)) H := h
theorem kx_u_a3 {D : va_G} {cl : List vw_C} {H : Heap} {ad : Nat → Nat} {cs : Nat → ClassId} {S : kx_S} {i : Nat} {v : Int32} (h : va_P D cl ((kx_w ad cs S).set 2 (ad 2, .inl (cs 2, 4, .inl (upd (kI S 3) i v)))) H) : va_P D cl (kx_w ad cs (sI S 3 i v)) H := h
theorem kx_u_a4 {D : va_G} {cl : List vw_C} {H : Heap} {ad : Nat → Nat} {cs : Nat → ClassId} {S : kx_S} {i : Nat} {v : Int32} (h : va_P D cl ((kx_w ad cs S).set 3 (ad 3, .inl (cs 3, 2, .inl (upd (kI S 4) i v)))) H) : va_P D cl (kx_w ad cs (sI S 4 i v)) H := h
theorem kx_u_a5 {D : va_G} {cl : List vw_C} {H : Heap} {ad : Nat → Nat} {cs : Nat → ClassId} {S : kx_S} {i : Nat} {v : Int32} (h : va_P D cl ((kx_w ad cs S).set 7 (ad 7, .inl (cs 7, 4, .inl (upd (kI S 5) i v)))) H) : va_P D cl (kx_w ad cs (sI S 5 i v)) H := h
theorem kx_u_a6 {D : va_G} {cl : List vw_C} {H : Heap} {ad : Nat → Nat} {cs : Nat → ClassId} {S : kx_S} {i : Nat} {v : Int32} (h : va_P D cl ((kx_w ad cs S).set 8 (ad 8, .inl (cs 8, 4, .inl (upd (kI S 6) i v)))) H) : va_P D cl (kx_w ad cs (sI S 6 i v)) H := h
theorem kx_u_a7 {D : va_G} {cl : List vw_C} {H : Heap} {ad : Nat → Nat} {cs : Nat → ClassId} {S : kx_S} {i : Nat} {v : Int32} (h : va_P D cl ((kx_w ad cs S).set 9 (ad 9, .inl (cs 9, 4, .inl (upd (kI S 7) i v)))) H) : va_P D cl (kx_w ad cs (sI S 7 i v)) H := h
theorem kx_u_a8 {D : va_G} {cl : List vw_C} {H : Heap} {ad : Nat → Nat} {cs : Nat → ClassId} {S : kx_S} {i : Nat} {v : Int32} (h : va_P D cl ((kx_w ad cs S).set 10 (ad 10, .inl (cs 10, 4, .inl (upd (kI S 8) i v)))) H) : va_P D cl (kx_w ad cs (sI S 8 i v)) H := h
def kx_wf (S : kx_S) : Prop := (∀ m, m < 4 → kI S 3 m = -1 ∨ ∃ t, t < 8 ∧ kI S 3 m = nI t) ∧ (∀ t, t < 8 → vp_in (kI S 17 t) 4) ∧ ∀ q, q < 2 → ∃ j, j ≤ 4 ∧ kI S 9 q = nI j
theorem kx_wf_J {S : kx_S} {f i : Nat} {v : Int64} (h : kx_wf S) : kx_wf (sJ S f i v) := h
theorem kx_wf_I {S : kx_S} {f i : Nat} {v : Int32} (h : kx_wf S) (hf : f ≠ 3 ∧ f ≠ 17 ∧ f ≠ 9) : kx_wf (sI S f i v) := by
  refine ⟨fun m hm => ?_, fun t ht => ?_, fun q hq => ?_⟩
  · rw [kI_sI, if_neg (fun e => hf.1 e.1.symm)]; exact h.1 m hm
  · rw [kI_sI, if_neg (fun e => hf.2.1 e.1.symm)]; exact h.2.1 t ht
  · rw [kI_sI, if_neg (fun e => hf.2.2 e.1.symm)]; exact h.2.2 q hq
theorem kx_wf_o {S : kx_S} {i : Nat} {v : Int32} (h : kx_wf S) (hv : v = -1 ∨ ∃ t, t < 8 ∧ v = nI t) : kx_wf (sI S 3 i v) := by
  refine ⟨fun m hm => ?_, fun t ht => h.2.1 t ht, fun q hq => h.2.2 q hq⟩
  rw [kI_sI]
  by_cases e : m = i
  · rw [if_pos ⟨rfl, e⟩]; exact hv
  · rw [if_neg (fun z => e z.2)]; exact h.1 m hm
theorem kx_wf_m {S : kx_S} {i : Nat} {v : Int32} (h : kx_wf S) (hv : vp_in v 4) : kx_wf (sI S 17 i v) := by
  refine ⟨fun m hm => h.1 m hm, fun t ht => ?_, fun q hq => h.2.2 q hq⟩
  rw [kI_sI]
  by_cases e : t = i
  · rw [if_pos ⟨rfl, e⟩]; exact hv
  · rw [if_neg (fun z => e z.2)]; exact h.2.1 t ht
theorem kx_wf_q {S : kx_S} {q : Nat} {v : Int32} (h : kx_wf S) (hv : ∃ j, j ≤ 4 ∧ v = nI j) : kx_wf (sI S 9 q v) := by
  refine ⟨fun m hm => h.1 m hm, fun t ht => h.2.1 t ht, fun q2 hq => ?_⟩
  rw [kI_sI]
  by_cases e : q2 = q
  · rw [if_pos ⟨rfl, e⟩]; exact hv
  · rw [if_neg (fun z => e z.2)]; exact h.2.2 q2 hq
def kx_pi (out : Int32 × kx_S) (r : Int32) (u : kx_S) : Prop := out = (r, u) ∧ kx_wf u
def kx_ph (out : Int32 × kx_S) (r : Int32) (u : kx_S) : Prop := out = (r, u) ∧ kx_wf u ∧ (r = -1 ∨ vp_in r 8)
def kx_pl (out : Int64 × kx_S) (r : Int64) (u : kx_S) : Prop := out = (r, u) ∧ kx_wf u
def kx_pv (out : kx_S) (u : kx_S) : Prop := out = u ∧ kx_wf u
def kx_po (out : Option Nat × kx_S) (r : Option Nat) (u : kx_S) : Prop := out = (r, u) ∧ kx_wf u ∧ ∀ t, r = some t → t < 8
theorem kx_lt {i : Int32} {n : Nat} (h : vp_in i n) : i.toNatClampNeg < n := Nat.not_le.mp fun q => h (Or.inr q)
theorem kx_own {S : kx_S} (h : kx_wf S) {m : Nat} (hm : m < 4) : kI S 3 m = -1 ∨ vp_in (kI S 3 m) 8 := by
  rcases h.1 m hm with e | ⟨t, ht, e⟩
  · exact Or.inl e
  · exact Or.inr (by rw [e]; exact vp_in_nI ht (by decide))
theorem kk_inl {i : Int32} {n : Nat} (h : ¬ (i < 0 ∨ n ≤ i.toNatClampNeg)) : vp_in i n := h
theorem kk_own {r : Int32} (h : vp_in r 8) : r = -1 ∨ ∃ t, t < 8 ∧ r = nI t := Or.inr (vp_in_of h (by decide))
theorem kk_ge {r : Int32} (h : 0 ≤ r) : ¬ r < 0 := fun h2 => Int32.lt_irrefl (Int32.lt_of_lt_of_le h2 h)
theorem kk_stay {k B : Nat} (h : k < B) (hB : B < 2 ^ 31) : ¬ nI B ≤ nI k := nI_ge h hB
theorem kk_ne8 {k : Nat} (h : k < 8) : ¬ nI k = 8 := fun e => by
  have := (nI_eq (a := k) (b := 8) (by omega) (by omega)).mp e
  omega
theorem kk_tn {n : Int32} (h : ¬ n < 1) : n = nI n.toNatClampNeg := by
  have h0 : ¬ n < 0 := fun q => h (Int32.lt_of_lt_of_le q (by decide))
  obtain ⟨j, hj, e⟩ := nI_of h0
  rw [e, nI_clamp hj]
theorem kk_tx {n : Int32} {k : Nat} (h : ¬ n < 1) (hk : k = n.toNatClampNeg) : n ≤ nI k := by
  rw [hk, ← kk_tn h]; exact Int32.le_refl _
theorem kk_ts {n : Int32} {k : Nat} (hk : k < n.toNatClampNeg) : ¬ n ≤ nI k := by
  intro h
  have h0 : ¬ n < 0 := fun q => by
    have : n.toNatClampNeg = 0 := by
      have h1 := Int32.lt_iff_toInt_lt.mp q
      have h2 : (0 : Int32).toInt = 0 := by decide
      unfold Int32.toNatClampNeg
      omega
    omega
  obtain ⟨j, hj, e⟩ := nI_of h0
  rw [e, nI_clamp hj] at hk
  rw [e] at h
  exact nI_ge hk hj h
theorem kk_nb {x : Int32} (h : x = 0 ∨ x = 1) : narrow .boolean (.int x) = .int x := by rcases h with rfl | rfl <;> rfl
theorem kk_fb {x : Int32} (h : x = 0 ∨ x = 1) : fits .boolean (.int x) = true := by rcases h with rfl | rfl <;> rfl
theorem kk_q1 {q : Int32} (h : vp_in q 2) (h0 : ¬ q = 0) : q = 1 := by
  obtain ⟨j, hj, e⟩ := vp_in_of h (by decide)
  rcases (show j = 0 ∨ j = 1 by omega) with rfl | rfl
  · exact absurd e h0
  · exact e
theorem kx_sz3 {x : Int32} (h : ∃ j, j ≤ 4 ∧ x = nI j) (h0 : ¬ x = 0) (h1 : ¬ x = 1) (h2 : ¬ x = 2) (h4 : ¬ x = 4) : x = 3 := by
  obtain ⟨j, hj, e⟩ := h
  rcases (show j = 0 ∨ j = 1 ∨ j = 2 ∨ j = 3 ∨ j = 4 by omega) with rfl | rfl | rfl | rfl | rfl
  · exact absurd e h0
  · exact absurd e h1
  · exact absurd e h2
  · exact e
  · exact absurd e h4
theorem kx_sz4 {x : Int32} (h : ∃ j, j ≤ 4 ∧ x = nI j) (h1 : ¬ x = 1) (h2 : ¬ x = 2) (h3 : ¬ x = 3) (h0 : ¬ x = 0) : x = 4 := by
  obtain ⟨j, hj, e⟩ := h
  rcases (show j = 0 ∨ j = 1 ∨ j = 2 ∨ j = 3 ∨ j = 4 by omega) with rfl | rfl | rfl | rfl | rfl
  · exact absurd e h0
  · exact absurd e h1
  · exact absurd e h2
  · exact absurd e h3
  · exact e
theorem km_sz3 {x : Int32} (h : ∃ j, j < 4 ∧ x = nI j) (h0 : ¬ x = 0) (h1 : ¬ x = 1) (h2 : ¬ x = 2) : x = 3 := by
  obtain ⟨j, hj, e⟩ := h
  rcases (show j = 0 ∨ j = 1 ∨ j = 2 ∨ j = 3 by omega) with rfl | rfl | rfl | rfl
  · exact absurd e h0
  · exact absurd e h1
  · exact absurd e h2
  · exact e
theorem kk_c0 : (0 : Int32).toNatClampNeg = 0 := by decide
theorem kk_c1 : (1 : Int32).toNatClampNeg = 1 := by decide
theorem kk_c2 : (2 : Int32).toNatClampNeg = 2 := by decide
theorem kk_c3 : (3 : Int32).toNatClampNeg = 3 := by decide
theorem kk_c4 : (4 : Int32).toNatClampNeg = 4 := by decide
theorem kk_c5 : (5 : Int32).toNatClampNeg = 5 := by decide
theorem kk_c6 : (6 : Int32).toNatClampNeg = 6 := by decide
theorem kk_c7 : (7 : Int32).toNatClampNeg = 7 := by decide
theorem kk_tab {x : Int32} {lo : Int} (n : Nat) (h : ∀ j : Nat, j < n → ¬ x.toInt = lo + j) (hi : Int) (hhi : hi = lo + n - 1) : x.toInt < lo ∨ hi < x.toInt := by
  rcases Classical.em (x.toInt < lo ∨ hi < x.toInt) with q | q
  · exact q
  · have h1 := h (x.toInt - lo).toNat (by omega)
    omega
theorem kk_neI {x : Int32} {k : Int} (y : Int32) (hy : y.toInt = k) (h : ¬ x = y) : ¬ x.toInt = k := fun e => h (Int32.toInt_inj.mp (by rw [e, hy]))
section KX
variable {p : Program} {l : Launch} {e : Env} {R : Room} {s : State} {m : MethodId} {args : Array Value} {below : List Frame} {meth : Method} {c : Code} {H : Heap} {locs : List Loc} {cells slots : Nat} {Q : State → Prop}
variable {cc : ByteArray} {pc : Nat} {ls : Array Slot} {rest : List Value} {dC : Nat → ClassId} {dI : Nat → Nat → Nat} {ad : Nat → Nat} {cs : Nat → ClassId} {S : kx_S}
theorem kx_ldT (hx : p.tables.exec = Jvm.exec) (hb : c.code = cc) (hK : va_K (dC, dI) vwCl (kx_t cs) s) (hP : va_P (dC, dI) vwCl (kx_w ad cs S) H) {i : Int32} (hin : vp_in i 8) (hdg : decode cc pc = .ok (.aaload, 1))
    (kk : W p l e R s m args below meth c H locs cells slots Q (F0 m (pc + 1) ls (.ref (kx_ta ad i.toNatClampNeg) :: rest))) : W p l e R s m args below meth c H locs cells slots Q (F0 m pc ls (.int i :: .ref (ad 1) :: rest)) :=
  va_aldq hx hb hK hP 1 0 rfl rfl hin hdg (by rw [if_pos (kx_lt hin)]; exact kk)
theorem kx_ldTk (hx : p.tables.exec = Jvm.exec) (hb : c.code = cc) (hK : va_K (dC, dI) vwCl (kx_t cs) s) (hP : va_P (dC, dI) vwCl (kx_w ad cs S) H) {k : Nat} (hk : k < 8) (hdg : decode cc pc = .ok (.aaload, 1))
    (kk : W p l e R s m args below meth c H locs cells slots Q (F0 m (pc + 1) ls (.ref (kx_ta ad k) :: rest))) : W p l e R s m args below meth c H locs cells slots Q (F0 m pc ls (.int (nI k) :: .ref (ad 1) :: rest)) :=
  kx_ldT hx hb hK hP (vp_in_nI hk (by decide)) hdg (by rw [nI_clamp (by omega)]; exact kk)
theorem kx_ldQ (hx : p.tables.exec = Jvm.exec) (hb : c.code = cc) (hK : va_K (dC, dI) vwCl (kx_t cs) s) (hP : va_P (dC, dI) vwCl (kx_w ad cs S) H) {i : Int32} (hin : vp_in i 2) (hdg : decode cc pc = .ok (.aaload, 1))
    (kk : W p l e R s m args below meth c H locs cells slots Q (F0 m (pc + 1) ls (.ref (kx_qa ad i.toNatClampNeg) :: rest))) : W p l e R s m args below meth c H locs cells slots Q (F0 m pc ls (.int i :: .ref (ad 4) :: rest)) :=
  va_aldq hx hb hK hP 4 3 rfl rfl hin hdg (by rw [if_pos (kx_lt hin)]; exact kk)
theorem kx_gsize (hx : p.tables.exec = Jvm.exec) (hb : c.code = cc) {own : String} {index : Nat} {Ts : List Cond} (hts : ∀ w ∈ Ts, w.before args s = true) (hin : ∀ w ∈ u_ws R_Q T_Q 3, w ∈ Ts) (hown : s.vm.findClass own = some m.cls) (hK : va_K (dC, dI) vwCl (kx_t cs) s) (hP : va_P (dC, dI) vwCl (kx_w ad cs S) H) {q : Nat} (hq : q < 2) (hlink : (Cond.fieldLink own index R_Q (T_Q 2).2.1 (T_Q 2).2.2.1).before args s = true) (hdg : decode cc pc = .ok (.getfield index, 3))
    (kk : W p l e R s m args below meth c H locs cells slots Q (F0 m (pc + 3) ls (.int (kI S 9 q) :: rest))) : W p l e R s m args below meth c H locs cells slots Q (F0 m pc ls (.ref (kx_qa ad q) :: rest)) := by
  rcases (show q = 0 ∨ q = 1 by omega) with rfl | rfl
  · exact va_get (D := (dC, dI)) (ci := 0) (v := .int (kI S 9 0)) (C := R_Q) (T := T_Q) (N := 3) hx hb hts hin hown hK hP 5 rfl rfl 2 (by decide) hlink (fun _ h9 => h9) rfl hdg kk
  · exact va_get (D := (dC, dI)) (ci := 0) (v := .int (kI S 9 1)) (C := R_Q) (T := T_Q) (N := 3) hx hb hts hin hown hK hP 6 rfl rfl 2 (by decide) hlink (fun _ h9 => h9) rfl hdg kk
theorem kx_recvQ (hK : va_K (dC, dI) vwCl (kx_t cs) s) (hP : va_P (dC, dI) vwCl (kx_w ad cs S) H) {q : Nat} (hq : q < 2) : ∃ cell : Cell, H[kx_qa ad q]? = some cell ∧ cell.vm.isStatics = false ∧ s.vm.findClass R_Q = some cell.cls := by
  rcases (show q = 0 ∨ q = 1 by omega) with rfl | rfl
  · exact va_recv hK hP (ci := 0) (q0 := 5) rfl rfl
  · exact va_recv hK hP (ci := 0) (q0 := 6) rfl rfl
end KX
abbrev km_S : Type := Nat → Nat → Int32
def mI (S : km_S) (f i : Nat) : Int32 := S f i
def sM (S : km_S) (f i : Nat) (v : Int32) : km_S := fun a => if a = f then upd (S f) i v else S a
theorem mI_sM {S : km_S} {f i a b : Nat} {v : Int32} : mI (sM S f i v) a b = if a = f ∧ b = i then v else mI S a b := by
  unfold mI sM upd
  by_cases h : a = f
  · subst h
    by_cases h2 : b = i <;> simp [h2]
  · simp [h]
def km_w (ad : Nat → Nat) (cs : Nat → ClassId) (S : km_S) : va_W := [(ad 0, .inr (3, [.int (mI S 0 0), .int (mI S 1 0), .int (mI S 2 0), .int (mI S 3 0), .ref (ad 1), .ref (ad 2), .ref (ad 3), .ref (ad 4), .ref (ad 5), .ref (ad 6), .ref (ad 7), .ref (ad 8), .ref (ad 9), .ref (ad 10), .ref (ad 11), .ref (ad 12), .ref (ad 13), .ref (ad 14), .ref (ad 15), .ref (ad 16), .ref (ad 17), .ref (ad 18), .ref (ad 19)])), (ad 1, .inl (cs 1, 8, .inl (mI S 4))), (ad 2, .inl (cs 2, 8, .inl (mI S 5))), (ad 3, .inl (cs 3, 8, .inl (mI S 6))), (ad 4, .inl (cs 4, 8, .inl (mI S 7))), (ad 5, .inl (cs 5, 8, .inl (mI S 8))), (ad 6, .inl (cs 6, 8, .inl (mI S 9))), (ad 7, .inl (cs 7, 8, .inl (mI S 10))), (ad 8, .inl (cs 8, 8, .inl (mI S 11))), (ad 9, .inl (cs 9, 8, .inl (mI S 12))), (ad 10, .inl (cs 10, 8, .inl (mI S 13))), (ad 11, .inl (cs 11, 8, .inl (mI S 14))), (ad 12, .inl (cs 12, 8, .inl (mI S 15))), (ad 13, .inl (cs 13, 8, .inl (mI S 16))), (ad 14, .inl (cs 14, 4, .inl (mI S 17))), (ad 15, .inl (cs 15, 2, .inl (mI S 18))), (ad 16, .inl (cs 16, 2, .inl (mI S 19))), (ad 17, .inl (cs 17, 8, .inl (mI S 20))), (ad 18, .inl (cs 18, 8, .inl (mI S 21))), (ad 19, .inl (cs 19, 8, .inl (mI S 22)))]
def km_t (cs : Nat → ClassId) : List (ClassId × FieldType) := [(cs 1, .int), (cs 2, .int), (cs 3, .int), (cs 4, .int), (cs 5, .int), (cs 6, .int), (cs 7, .int), (cs 8, .int), (cs 9, .int), (cs 10, .int), (cs 11, .int), (cs 12, .boolean), (cs 13, .boolean), (cs 14, .int), (cs 15, .int), (cs 16, .int), (cs 17, .int), (cs 18, .int), (cs 19, .int)]
def km_inj (ad : Nat → Nat) : Prop := ∀ i j, i < 20 → j < 20 → ad i = ad j → i = j
def km_A (ad : Nat → Nat) (q : Nat) : Prop := ∃ k, k < 20 ∧ q = ad k
theorem km_len (ad : Nat → Nat) (cs : Nat → ClassId) (S : km_S) : (km_w ad cs S).length = 20 := rfl
theorem km_adr {ad : Nat → Nat} {cs : Nat → ClassId} {S : km_S} : ∀ (k : Nat) (q : Nat × va_E), (km_w ad cs S)[k]? = some q → k < 20 ∧ q.1 = ad k
  | 0, q, h => by have e := Option.some.inj h; subst e; exact ⟨by decide, rfl⟩
  | 1, q, h => by have e := Option.some.inj h; subst e; exact ⟨by decide, rfl⟩
  | 2, q, h => by have e := Option.some.inj h; subst e; exact ⟨by decide, rfl⟩
  | 3, q, h => by have e := Option.some.inj h; subst e; exact ⟨by decide, rfl⟩
  | 4, q, h => by have e := Option.some.inj h; subst e; exact ⟨by decide, rfl⟩
  | 5, q, h => by have e := Option.some.inj h; subst e; exact ⟨by decide, rfl⟩
  | 6, q, h => by have e := Option.some.inj h; subst e; exact ⟨by decide, rfl⟩
  | 7, q, h => by have e := Option.some.inj h; subst e; exact ⟨by decide, rfl⟩
  | 8, q, h => by have e := Option.some.inj h; subst e; exact ⟨by decide, rfl⟩
  | 9, q, h => by have e := Option.some.inj h; subst e; exact ⟨by decide, rfl⟩
  | 10, q, h => by have e := Option.some.inj h; subst e; exact ⟨by decide, rfl⟩
  | 11, q, h => by have e := Option.some.inj h; subst e; exact ⟨by decide, rfl⟩
  | 12, q, h => by have e := Option.some.inj h; subst e; exact ⟨by decide, rfl⟩
  | 13, q, h => by have e := Option.some.inj h; subst e; exact ⟨by decide, rfl⟩
  | 14, q, h => by have e := Option.some.inj h; subst e; exact ⟨by decide, rfl⟩
  | 15, q, h => by have e := Option.some.inj h; subst e; exact ⟨by decide, rfl⟩
  | 16, q, h => by have e := Option.some.inj h; subst e; exact ⟨by decide, rfl⟩
  | 17, q, h => by have e := Option.some.inj h; subst e; exact ⟨by decide, rfl⟩
  | 18, q, h => by have e := Option.some.inj h; subst e; exact ⟨by decide, rfl⟩
  | 19, q, h => by have e := Option.some.inj h; subst e; exact ⟨by decide, rfl⟩
  | k + 20, q, h => by have h2 := (List.getElem?_eq_some_iff.mp h).1; rw [km_len] at h2; omega
theorem km_D {ad : Nat → Nat} (hj : km_inj ad) {cs : Nat → ClassId} {S : km_S} : va_D (km_A ad) (km_w ad cs S) := by
  refine ⟨fun i j p q hi hj2 e => ?_, fun k q hk => ⟨k, (km_adr k q hk).1, (km_adr k q hk).2⟩⟩
  obtain ⟨h1, h2⟩ := km_adr i p hi
  obtain ⟨h3, h4⟩ := km_adr j q hj2
  exact hj i j h1 h3 (by rw [← h2, ← h4, e])
theorem km_u_time {D : va_G} {cl : List vw_C} {H : Heap} {ad : Nat → Nat} {cs : Nat → ClassId} {S : km_S} {v : Int32} (h : va_P D cl ((km_w ad cs S).set 0 (ad 0, .inr (3, [.int (mI S 0 0), .int (mI S 1 0), .int (mI S 2 0), .int (mI S 3 0), .ref (ad 1), .ref (ad 2), .ref (ad 3), .ref (ad 4), .ref (ad 5), .ref (ad 6), .ref (ad 7), .ref (ad 8), .ref (ad 9), .ref (ad 10), .ref (ad 11), .ref (ad 12), .ref (ad 13), .ref (ad 14), .ref (ad 15), .ref (ad 16), .ref (ad 17), .ref (ad 18), .ref (ad 19)].set 2 (.int v)))) H) : va_P D cl (km_w ad cs (sM S 2 0 v)) H := h
theorem km_u_stamps {D : va_G} {cl : List vw_C} {H : Heap} {ad : Nat → Nat} {cs : Nat → ClassId} {S : km_S} {v : Int32} (h : va_P D cl ((km_w ad cs S).set 0 (ad 0, .inr (3, [.int (mI S 0 0), .int (mI S 1 0), .int (mI S 2 0), .int (mI S 3 0), .ref (ad 1), .ref (ad 2), .ref (ad 3), .ref (ad 4), .ref (ad 5), .ref (ad 6), .ref (ad 7), .ref (ad 8), .ref (ad 9), .ref (ad 10), .ref (ad 11), .ref (ad 12), .ref (ad 13), .ref (ad 14), .ref (ad 15), .ref (ad 16), .ref (ad 17), .ref (ad 18), .ref (ad 19)].set 3 (.int v)))) H) : va_P D cl (km_w ad cs (sM S 3 0 v)) H := h
theorem km_u_state {D : va_G} {cl : List vw_C} {H : Heap} {ad : Nat → Nat} {cs : Nat → ClassId} {S : km_S} {i : Nat} {v : Int32} (h : va_P D cl ((km_w ad cs S).set 1 (ad 1, .inl (cs 1, 8, .inl (upd (mI S 4) i v)))) H) : va_P D cl (km_w ad cs (sM S 4 i v)) H := h
theorem km_u_base {D : va_G} {cl : List vw_C} {H : Heap} {ad : Nat → Nat} {cs : Nat → ClassId} {S : km_S} {i : Nat} {v : Int32} (h : va_P D cl ((km_w ad cs S).set 2 (ad 2, .inl (cs 2, 8, .inl (upd (mI S 5) i v)))) H) : va_P D cl (km_w ad cs (sM S 5 i v)) H := h
theorem km_u_stamp {D : va_G} {cl : List vw_C} {H : Heap} {ad : Nat → Nat} {cs : Nat → ClassId} {S : km_S} {i : Nat} {v : Int32} (h : va_P D cl ((km_w ad cs S).set 3 (ad 3, .inl (cs 3, 8, .inl (upd (mI S 6) i v)))) H) : va_P D cl (km_w ad cs (sM S 6 i v)) H := h
theorem km_u_used {D : va_G} {cl : List vw_C} {H : Heap} {ad : Nat → Nat} {cs : Nat → ClassId} {S : km_S} {i : Nat} {v : Int32} (h : va_P D cl ((km_w ad cs S).set 4 (ad 4, .inl (cs 4, 8, .inl (upd (mI S 7) i v)))) H) : va_P D cl (km_w ad cs (sM S 7 i v)) H := h
theorem km_u_on {D : va_G} {cl : List vw_C} {H : Heap} {ad : Nat → Nat} {cs : Nat → ClassId} {S : km_S} {i : Nat} {v : Int32} (h : va_P D cl ((km_w ad cs S).set 5 (ad 5, .inl (cs 5, 8, .inl (upd (mI S 8) i v)))) H) : va_P D cl (km_w ad cs (sM S 8 i v)) H := h
theorem km_u_since {D : va_G} {cl : List vw_C} {H : Heap} {ad : Nat → Nat} {cs : Nat → ClassId} {S : km_S} {i : Nat} {v : Int32} (h : va_P D cl ((km_w ad cs S).set 6 (ad 6, .inl (cs 6, 8, .inl (upd (mI S 9) i v)))) H) : va_P D cl (km_w ad cs (sM S 9 i v)) H := h
theorem km_u_deadline {D : va_G} {cl : List vw_C} {H : Heap} {ad : Nat → Nat} {cs : Nat → ClassId} {S : km_S} {i : Nat} {v : Int32} (h : va_P D cl ((km_w ad cs S).set 7 (ad 7, .inl (cs 7, 8, .inl (upd (mI S 10) i v)))) H) : va_P D cl (km_w ad cs (sM S 10 i v)) H := h
theorem km_u_result {D : va_G} {cl : List vw_C} {H : Heap} {ad : Nat → Nat} {cs : Nat → ClassId} {S : km_S} {i : Nat} {v : Int32} (h : va_P D cl ((km_w ad cs S).set 8 (ad 8, .inl (cs 8, 8, .inl (upd (mI S 11) i v)))) H) : va_P D cl (km_w ad cs (sM S 11 i v)) H := h
theorem km_u_mind {D : va_G} {cl : List vw_C} {H : Heap} {ad : Nat → Nat} {cs : Nat → ClassId} {S : km_S} {i : Nat} {v : Int32} (h : va_P D cl ((km_w ad cs S).set 9 (ad 9, .inl (cs 9, 8, .inl (upd (mI S 12) i v)))) H) : va_P D cl (km_w ad cs (sM S 12 i v)) H := h
theorem km_u_rank {D : va_G} {cl : List vw_C} {H : Heap} {ad : Nat → Nat} {cs : Nat → ClassId} {S : km_S} {i : Nat} {v : Int32} (h : va_P D cl ((km_w ad cs S).set 10 (ad 10, .inl (cs 10, 8, .inl (upd (mI S 13) i v)))) H) : va_P D cl (km_w ad cs (sM S 13 i v)) H := h
theorem km_u_value {D : va_G} {cl : List vw_C} {H : Heap} {ad : Nat → Nat} {cs : Nat → ClassId} {S : km_S} {i : Nat} {v : Int32} (h : va_P D cl ((km_w ad cs S).set 11 (ad 11, .inl (cs 11, 8, .inl (upd (mI S 14) i v)))) H) : va_P D cl (km_w ad cs (sM S 14 i v)) H := h
theorem km_u_sliced {D : va_G} {cl : List vw_C} {H : Heap} {ad : Nat → Nat} {cs : Nat → ClassId} {S : km_S} {i : Nat} {v : Int32} (h : va_P D cl ((km_w ad cs S).set 12 (ad 12, .inl (cs 12, 8, .inl (upd (mI S 15) i v)))) H) : va_P D cl (km_w ad cs (sM S 15 i v)) H := h
theorem km_u_retakes {D : va_G} {cl : List vw_C} {H : Heap} {ad : Nat → Nat} {cs : Nat → ClassId} {S : km_S} {i : Nat} {v : Int32} (h : va_P D cl ((km_w ad cs S).set 13 (ad 13, .inl (cs 13, 8, .inl (upd (mI S 16) i v)))) H) : va_P D cl (km_w ad cs (sM S 16 i v)) H := h
theorem km_u_owns {D : va_G} {cl : List vw_C} {H : Heap} {ad : Nat → Nat} {cs : Nat → ClassId} {S : km_S} {i : Nat} {v : Int32} (h : va_P D cl ((km_w ad cs S).set 14 (ad 14, .inl (cs 14, 4, .inl (upd (mI S 17) i v)))) H) : va_P D cl (km_w ad cs (sM S 17 i v)) H := h
theorem km_u_count {D : va_G} {cl : List vw_C} {H : Heap} {ad : Nat → Nat} {cs : Nat → ClassId} {S : km_S} {i : Nat} {v : Int32} (h : va_P D cl ((km_w ad cs S).set 15 (ad 15, .inl (cs 15, 2, .inl (upd (mI S 18) i v)))) H) : va_P D cl (km_w ad cs (sM S 18 i v)) H := h
theorem km_u_messages {D : va_G} {cl : List vw_C} {H : Heap} {ad : Nat → Nat} {cs : Nat → ClassId} {S : km_S} {i : Nat} {v : Int32} (h : va_P D cl ((km_w ad cs S).set 16 (ad 16, .inl (cs 16, 2, .inl (upd (mI S 19) i v)))) H) : va_P D cl (km_w ad cs (sM S 19 i v)) H := h
theorem km_u_messageRank {D : va_G} {cl : List vw_C} {H : Heap} {ad : Nat → Nat} {cs : Nat → ClassId} {S : km_S} {i : Nat} {v : Int32} (h : va_P D cl ((km_w ad cs S).set 17 (ad 17, .inl (cs 17, 8, .inl (upd (mI S 20) i v)))) H) : va_P D cl (km_w ad cs (sM S 20 i v)) H := h
theorem km_u_messageValue {D : va_G} {cl : List vw_C} {H : Heap} {ad : Nat → Nat} {cs : Nat → ClassId} {S : km_S} {i : Nat} {v : Int32} (h : va_P D cl ((km_w ad cs S).set 18 (ad 18, .inl (cs 18, 8, .inl (upd (mI S 21) i v)))) H) : va_P D cl (km_w ad cs (sM S 21 i v)) H := h
theorem km_u_urgent {D : va_G} {cl : List vw_C} {H : Heap} {ad : Nat → Nat} {cs : Nat → ClassId} {S : km_S} {i : Nat} {v : Int32} (h : va_P D cl ((km_w ad cs S).set 19 (ad 19, .inl (cs 19, 8, .inl (upd (mI S 22) i v)))) H) : va_P D cl (km_w ad cs (sM S 22 i v)) H := h
def km_wf (S : km_S) : Prop := (∀ m, m < 4 → mI S 17 m = -1 ∨ ∃ t, t < 8 ∧ mI S 17 m = nI t) ∧ (∀ t, t < 8 → vp_in (mI S 12 t) 4) ∧ ∀ q, q < 2 → ∃ j, j ≤ 4 ∧ mI S 19 q = nI j
theorem km_wf_I {S : km_S} {f i : Nat} {v : Int32} (h : km_wf S) (hf : f ≠ 17 ∧ f ≠ 12 ∧ f ≠ 19) : km_wf (sM S f i v) := by
  refine ⟨fun m hm => ?_, fun t ht => ?_, fun q hq => ?_⟩
  · rw [mI_sM, if_neg (fun e => hf.1 e.1.symm)]; exact h.1 m hm
  · rw [mI_sM, if_neg (fun e => hf.2.1 e.1.symm)]; exact h.2.1 t ht
  · rw [mI_sM, if_neg (fun e => hf.2.2 e.1.symm)]; exact h.2.2 q hq
theorem km_wf_o {S : km_S} {i : Nat} {v : Int32} (h : km_wf S) (hv : v = -1 ∨ ∃ t, t < 8 ∧ v = nI t) : km_wf (sM S 17 i v) := by
  refine ⟨fun m hm => ?_, fun t ht => h.2.1 t ht, fun q hq => h.2.2 q hq⟩
  rw [mI_sM]
  by_cases e : m = i
  · rw [if_pos ⟨rfl, e⟩]; exact hv
  · rw [if_neg (fun z => e z.2)]; exact h.1 m hm
theorem km_wf_m {S : km_S} {i : Nat} {v : Int32} (h : km_wf S) (hv : vp_in v 4) : km_wf (sM S 12 i v) := by
  refine ⟨fun m hm => h.1 m hm, fun t ht => ?_, fun q hq => h.2.2 q hq⟩
  rw [mI_sM]
  by_cases e : t = i
  · rw [if_pos ⟨rfl, e⟩]; exact hv
  · rw [if_neg (fun z => e z.2)]; exact h.2.1 t ht
theorem km_wf_q {S : km_S} {q : Nat} {v : Int32} (h : km_wf S) (hv : ∃ j, j ≤ 4 ∧ v = nI j) : km_wf (sM S 19 q v) := by
  refine ⟨fun m hm => h.1 m hm, fun t ht => h.2.1 t ht, fun q2 hq => ?_⟩
  rw [mI_sM]
  by_cases e : q2 = q
  · rw [if_pos ⟨rfl, e⟩]; exact hv
  · rw [if_neg (fun z => e z.2)]; exact h.2.2 q2 hq
def km_pi (out : Int32 × km_S) (r : Int32) (u : km_S) : Prop := out = (r, u) ∧ km_wf u
def km_pr (out : Int32 × km_S) (r : Int32) (u : km_S) : Prop := out = (r, u) ∧ km_wf u ∧ (r < 0 ∨ vp_in r 8)
def km_pl (out : Int64 × km_S) (r : Int64) (u : km_S) : Prop := out = (r, u) ∧ km_wf u
def km_pv (out : km_S) (u : km_S) : Prop := out = u ∧ km_wf u
theorem km_own8 {S : km_S} (h : km_wf S) {i : Int32} (hi : vp_in i 4) (h0 : ¬ mI S 17 i.toNatClampNeg < 0) : vp_in (mI S 17 i.toNatClampNeg) 8 := by
  rcases h.1 _ (kx_lt hi) with e | ⟨t, ht, e⟩
  · rw [e] at h0; exact absurd (by decide) h0
  · rw [e]; exact vp_in_nI ht (by decide)
theorem km_mdec {S : km_S} (h : km_wf S) {q : Nat} (hq : q < 2) (h0 : ¬ mI S 19 q = 0) : ∃ j, j ≤ 4 ∧ mI S 19 q - 1 = nI j := by
  obtain ⟨j, hj, e⟩ := h.2.2 q hq
  rw [e] at h0 ⊢
  rcases (show j = 0 ∨ j = 1 ∨ j = 2 ∨ j = 3 ∨ j = 4 by omega) with rfl | rfl | rfl | rfl | rfl
  · exact absurd rfl h0
  · exact ⟨0, by decide, by decide⟩
  · exact ⟨1, by decide, by decide⟩
  · exact ⟨2, by decide, by decide⟩
  · exact ⟨3, by decide, by decide⟩
end
section
/-! what each method does, as a function -/
def xf_isBelow (a : Int32) (b : Int32) : Int32 :=
  if a < 0 then
    0
  else
    if b ≤ a then
      0
    else
      1
def xf_isPriority (a : Int32) : Int32 :=
  if a < 1 then
    0
  else
    if 31 < a then
      0
    else
      1
def xf_isTimeout (a : Int32) : Int32 :=
  if a < 0 then
    0
  else
    if 1000 < a then
      0
    else
      1
def xf_isAheadOf (σ : kx_S) (t0 : Nat) (t : Nat) : Int32 × kx_S :=
  if (kI σ 12 t) < (kI σ 12 t0) then
    (1, σ)
  else
    if (kI σ 12 t0) = (kI σ 12 t) then
      if 0 ≤ (lg_cmp (kJ σ 0 t0) (kJ σ 0 t)) then
        (0, σ)
      else
        (1, σ)
    else
      (0, σ)
def xf_isEmpty_0 (σ : kx_S)  : Int32 × kx_S :=
  if (kI σ 9 0) = 0 then
    (1, σ)
  else
    (0, σ)
def xf_isEmpty_1 (σ : kx_S)  : Int32 × kx_S :=
  if (kI σ 9 1) = 0 then
    (1, σ)
  else
    (0, σ)
def xf_isEmpty (σ : kx_S) (q : Nat)  : Int32 × kx_S := if q = 0 then xf_isEmpty_0 σ  else xf_isEmpty_1 σ 
def xf_isFull_0 (σ : kx_S)  : Int32 × kx_S :=
  if (kI σ 9 0) = 4 then
    (1, σ)
  else
    (0, σ)
def xf_isFull_1 (σ : kx_S)  : Int32 × kx_S :=
  if (kI σ 9 1) = 4 then
    (1, σ)
  else
    (0, σ)
def xf_isFull (σ : kx_S) (q : Nat)  : Int32 × kx_S := if q = 0 then xf_isFull_0 σ  else xf_isFull_1 σ 
def xf_insert_0 (σ : kx_S) (rank : Int32) (value : Int32) : kx_S :=
  kk_b (xf_isFull_0 σ) (fun r1 s1 =>
    if r1 = 0 then
      if (kI s1 9 0) = 0 then
        sI (sI (sI s1 5 0 rank) 7 0 value) 9 0 ((kI (sI (sI s1 5 0 rank) 7 0 value) 9 0) + 1)
      else
        if (kI s1 9 0) = 1 then
          if rank ≤ (kI s1 5 0) then
            sI (sI (sI s1 5 1 rank) 7 1 value) 9 0 ((kI (sI (sI s1 5 1 rank) 7 1 value) 9 0) + 1)
          else
            sI (sI (sI (sI (sI s1 5 1 (kI s1 5 0)) 7 1 (kI (sI s1 5 1 (kI s1 5 0)) 7 0)) 5 0 rank) 7 0 value) 9 0 ((kI (sI (sI (sI (sI s1 5 1 (kI s1 5 0)) 7 1 (kI (sI s1 5 1 (kI s1 5 0)) 7 0)) 5 0 rank) 7 0 value) 9 0) + 1)
        else
          if (kI s1 9 0) = 2 then
            if rank ≤ (kI s1 5 1) then
              sI (sI (sI s1 5 2 rank) 7 2 value) 9 0 ((kI (sI (sI s1 5 2 rank) 7 2 value) 9 0) + 1)
            else
              if rank ≤ (kI (sI (sI s1 5 2 (kI s1 5 1)) 7 2 (kI (sI s1 5 2 (kI s1 5 1)) 7 1)) 5 0) then
                sI (sI (sI (sI (sI s1 5 2 (kI s1 5 1)) 7 2 (kI (sI s1 5 2 (kI s1 5 1)) 7 1)) 5 1 rank) 7 1 value) 9 0 ((kI (sI (sI (sI (sI s1 5 2 (kI s1 5 1)) 7 2 (kI (sI s1 5 2 (kI s1 5 1)) 7 1)) 5 1 rank) 7 1 value) 9 0) + 1)
              else
                sI (sI (sI (sI (sI (sI (sI s1 5 2 (kI s1 5 1)) 7 2 (kI (sI s1 5 2 (kI s1 5 1)) 7 1)) 5 1 (kI (sI (sI s1 5 2 (kI s1 5 1)) 7 2 (kI (sI s1 5 2 (kI s1 5 1)) 7 1)) 5 0)) 7 1 (kI (sI (sI (sI s1 5 2 (kI s1 5 1)) 7 2 (kI (sI s1 5 2 (kI s1 5 1)) 7 1)) 5 1 (kI (sI (sI s1 5 2 (kI s1 5 1)) 7 2 (kI (sI s1 5 2 (kI s1 5 1)) 7 1)) 5 0)) 7 0)) 5 0 rank) 7 0 value) 9 0 ((kI (sI (sI (sI (sI (sI (sI s1 5 2 (kI s1 5 1)) 7 2 (kI (sI s1 5 2 (kI s1 5 1)) 7 1)) 5 1 (kI (sI (sI s1 5 2 (kI s1 5 1)) 7 2 (kI (sI s1 5 2 (kI s1 5 1)) 7 1)) 5 0)) 7 1 (kI (sI (sI (sI s1 5 2 (kI s1 5 1)) 7 2 (kI (sI s1 5 2 (kI s1 5 1)) 7 1)) 5 1 (kI (sI (sI s1 5 2 (kI s1 5 1)) 7 2 (kI (sI s1 5 2 (kI s1 5 1)) 7 1)) 5 0)) 7 0)) 5 0 rank) 7 0 value) 9 0) + 1)
          else
            if rank ≤ (kI s1 5 2) then
              sI (sI (sI s1 5 3 rank) 7 3 value) 9 0 ((kI (sI (sI s1 5 3 rank) 7 3 value) 9 0) + 1)
            else
              if rank ≤ (kI (sI (sI s1 5 3 (kI s1 5 2)) 7 3 (kI (sI s1 5 3 (kI s1 5 2)) 7 2)) 5 1) then
                sI (sI (sI (sI (sI s1 5 3 (kI s1 5 2)) 7 3 (kI (sI s1 5 3 (kI s1 5 2)) 7 2)) 5 2 rank) 7 2 value) 9 0 ((kI (sI (sI (sI (sI s1 5 3 (kI s1 5 2)) 7 3 (kI (sI s1 5 3 (kI s1 5 2)) 7 2)) 5 2 rank) 7 2 value) 9 0) + 1)
              else
                if rank ≤ (kI (sI (sI (sI (sI s1 5 3 (kI s1 5 2)) 7 3 (kI (sI s1 5 3 (kI s1 5 2)) 7 2)) 5 2 (kI (sI (sI s1 5 3 (kI s1 5 2)) 7 3 (kI (sI s1 5 3 (kI s1 5 2)) 7 2)) 5 1)) 7 2 (kI (sI (sI (sI s1 5 3 (kI s1 5 2)) 7 3 (kI (sI s1 5 3 (kI s1 5 2)) 7 2)) 5 2 (kI (sI (sI s1 5 3 (kI s1 5 2)) 7 3 (kI (sI s1 5 3 (kI s1 5 2)) 7 2)) 5 1)) 7 1)) 5 0) then
                  sI (sI (sI (sI (sI (sI (sI s1 5 3 (kI s1 5 2)) 7 3 (kI (sI s1 5 3 (kI s1 5 2)) 7 2)) 5 2 (kI (sI (sI s1 5 3 (kI s1 5 2)) 7 3 (kI (sI s1 5 3 (kI s1 5 2)) 7 2)) 5 1)) 7 2 (kI (sI (sI (sI s1 5 3 (kI s1 5 2)) 7 3 (kI (sI s1 5 3 (kI s1 5 2)) 7 2)) 5 2 (kI (sI (sI s1 5 3 (kI s1 5 2)) 7 3 (kI (sI s1 5 3 (kI s1 5 2)) 7 2)) 5 1)) 7 1)) 5 1 rank) 7 1 value) 9 0 ((kI (sI (sI (sI (sI (sI (sI s1 5 3 (kI s1 5 2)) 7 3 (kI (sI s1 5 3 (kI s1 5 2)) 7 2)) 5 2 (kI (sI (sI s1 5 3 (kI s1 5 2)) 7 3 (kI (sI s1 5 3 (kI s1 5 2)) 7 2)) 5 1)) 7 2 (kI (sI (sI (sI s1 5 3 (kI s1 5 2)) 7 3 (kI (sI s1 5 3 (kI s1 5 2)) 7 2)) 5 2 (kI (sI (sI s1 5 3 (kI s1 5 2)) 7 3 (kI (sI s1 5 3 (kI s1 5 2)) 7 2)) 5 1)) 7 1)) 5 1 rank) 7 1 value) 9 0) + 1)
                else
                  sI (sI (sI (sI (sI (sI (sI (sI (sI s1 5 3 (kI s1 5 2)) 7 3 (kI (sI s1 5 3 (kI s1 5 2)) 7 2)) 5 2 (kI (sI (sI s1 5 3 (kI s1 5 2)) 7 3 (kI (sI s1 5 3 (kI s1 5 2)) 7 2)) 5 1)) 7 2 (kI (sI (sI (sI s1 5 3 (kI s1 5 2)) 7 3 (kI (sI s1 5 3 (kI s1 5 2)) 7 2)) 5 2 (kI (sI (sI s1 5 3 (kI s1 5 2)) 7 3 (kI (sI s1 5 3 (kI s1 5 2)) 7 2)) 5 1)) 7 1)) 5 1 (kI (sI (sI (sI (sI s1 5 3 (kI s1 5 2)) 7 3 (kI (sI s1 5 3 (kI s1 5 2)) 7 2)) 5 2 (kI (sI (sI s1 5 3 (kI s1 5 2)) 7 3 (kI (sI s1 5 3 (kI s1 5 2)) 7 2)) 5 1)) 7 2 (kI (sI (sI (sI s1 5 3 (kI s1 5 2)) 7 3 (kI (sI s1 5 3 (kI s1 5 2)) 7 2)) 5 2 (kI (sI (sI s1 5 3 (kI s1 5 2)) 7 3 (kI (sI s1 5 3 (kI s1 5 2)) 7 2)) 5 1)) 7 1)) 5 0)) 7 1 (kI (sI (sI (sI (sI (sI s1 5 3 (kI s1 5 2)) 7 3 (kI (sI s1 5 3 (kI s1 5 2)) 7 2)) 5 2 (kI (sI (sI s1 5 3 (kI s1 5 2)) 7 3 (kI (sI s1 5 3 (kI s1 5 2)) 7 2)) 5 1)) 7 2 (kI (sI (sI (sI s1 5 3 (kI s1 5 2)) 7 3 (kI (sI s1 5 3 (kI s1 5 2)) 7 2)) 5 2 (kI (sI (sI s1 5 3 (kI s1 5 2)) 7 3 (kI (sI s1 5 3 (kI s1 5 2)) 7 2)) 5 1)) 7 1)) 5 1 (kI (sI (sI (sI (sI s1 5 3 (kI s1 5 2)) 7 3 (kI (sI s1 5 3 (kI s1 5 2)) 7 2)) 5 2 (kI (sI (sI s1 5 3 (kI s1 5 2)) 7 3 (kI (sI s1 5 3 (kI s1 5 2)) 7 2)) 5 1)) 7 2 (kI (sI (sI (sI s1 5 3 (kI s1 5 2)) 7 3 (kI (sI s1 5 3 (kI s1 5 2)) 7 2)) 5 2 (kI (sI (sI s1 5 3 (kI s1 5 2)) 7 3 (kI (sI s1 5 3 (kI s1 5 2)) 7 2)) 5 1)) 7 1)) 5 0)) 7 0)) 5 0 rank) 7 0 value) 9 0 ((kI (sI (sI (sI (sI (sI (sI (sI (sI s1 5 3 (kI s1 5 2)) 7 3 (kI (sI s1 5 3 (kI s1 5 2)) 7 2)) 5 2 (kI (sI (sI s1 5 3 (kI s1 5 2)) 7 3 (kI (sI s1 5 3 (kI s1 5 2)) 7 2)) 5 1)) 7 2 (kI (sI (sI (sI s1 5 3 (kI s1 5 2)) 7 3 (kI (sI s1 5 3 (kI s1 5 2)) 7 2)) 5 2 (kI (sI (sI s1 5 3 (kI s1 5 2)) 7 3 (kI (sI s1 5 3 (kI s1 5 2)) 7 2)) 5 1)) 7 1)) 5 1 (kI (sI (sI (sI (sI s1 5 3 (kI s1 5 2)) 7 3 (kI (sI s1 5 3 (kI s1 5 2)) 7 2)) 5 2 (kI (sI (sI s1 5 3 (kI s1 5 2)) 7 3 (kI (sI s1 5 3 (kI s1 5 2)) 7 2)) 5 1)) 7 2 (kI (sI (sI (sI s1 5 3 (kI s1 5 2)) 7 3 (kI (sI s1 5 3 (kI s1 5 2)) 7 2)) 5 2 (kI (sI (sI s1 5 3 (kI s1 5 2)) 7 3 (kI (sI s1 5 3 (kI s1 5 2)) 7 2)) 5 1)) 7 1)) 5 0)) 7 1 (kI (sI (sI (sI (sI (sI s1 5 3 (kI s1 5 2)) 7 3 (kI (sI s1 5 3 (kI s1 5 2)) 7 2)) 5 2 (kI (sI (sI s1 5 3 (kI s1 5 2)) 7 3 (kI (sI s1 5 3 (kI s1 5 2)) 7 2)) 5 1)) 7 2 (kI (sI (sI (sI s1 5 3 (kI s1 5 2)) 7 3 (kI (sI s1 5 3 (kI s1 5 2)) 7 2)) 5 2 (kI (sI (sI s1 5 3 (kI s1 5 2)) 7 3 (kI (sI s1 5 3 (kI s1 5 2)) 7 2)) 5 1)) 7 1)) 5 1 (kI (sI (sI (sI (sI s1 5 3 (kI s1 5 2)) 7 3 (kI (sI s1 5 3 (kI s1 5 2)) 7 2)) 5 2 (kI (sI (sI s1 5 3 (kI s1 5 2)) 7 3 (kI (sI s1 5 3 (kI s1 5 2)) 7 2)) 5 1)) 7 2 (kI (sI (sI (sI s1 5 3 (kI s1 5 2)) 7 3 (kI (sI s1 5 3 (kI s1 5 2)) 7 2)) 5 2 (kI (sI (sI s1 5 3 (kI s1 5 2)) 7 3 (kI (sI s1 5 3 (kI s1 5 2)) 7 2)) 5 1)) 7 1)) 5 0)) 7 0)) 5 0 rank) 7 0 value) 9 0) + 1)
    else
      s1)
def xf_insert_1 (σ : kx_S) (rank : Int32) (value : Int32) : kx_S :=
  kk_b (xf_isFull_1 σ) (fun r1 s1 =>
    if r1 = 0 then
      if (kI s1 9 1) = 0 then
        sI (sI (sI s1 6 0 rank) 8 0 value) 9 1 ((kI (sI (sI s1 6 0 rank) 8 0 value) 9 1) + 1)
      else
        if (kI s1 9 1) = 1 then
          if rank ≤ (kI s1 6 0) then
            sI (sI (sI s1 6 1 rank) 8 1 value) 9 1 ((kI (sI (sI s1 6 1 rank) 8 1 value) 9 1) + 1)
          else
            sI (sI (sI (sI (sI s1 6 1 (kI s1 6 0)) 8 1 (kI (sI s1 6 1 (kI s1 6 0)) 8 0)) 6 0 rank) 8 0 value) 9 1 ((kI (sI (sI (sI (sI s1 6 1 (kI s1 6 0)) 8 1 (kI (sI s1 6 1 (kI s1 6 0)) 8 0)) 6 0 rank) 8 0 value) 9 1) + 1)
        else
          if (kI s1 9 1) = 2 then
            if rank ≤ (kI s1 6 1) then
              sI (sI (sI s1 6 2 rank) 8 2 value) 9 1 ((kI (sI (sI s1 6 2 rank) 8 2 value) 9 1) + 1)
            else
              if rank ≤ (kI (sI (sI s1 6 2 (kI s1 6 1)) 8 2 (kI (sI s1 6 2 (kI s1 6 1)) 8 1)) 6 0) then
                sI (sI (sI (sI (sI s1 6 2 (kI s1 6 1)) 8 2 (kI (sI s1 6 2 (kI s1 6 1)) 8 1)) 6 1 rank) 8 1 value) 9 1 ((kI (sI (sI (sI (sI s1 6 2 (kI s1 6 1)) 8 2 (kI (sI s1 6 2 (kI s1 6 1)) 8 1)) 6 1 rank) 8 1 value) 9 1) + 1)
              else
                sI (sI (sI (sI (sI (sI (sI s1 6 2 (kI s1 6 1)) 8 2 (kI (sI s1 6 2 (kI s1 6 1)) 8 1)) 6 1 (kI (sI (sI s1 6 2 (kI s1 6 1)) 8 2 (kI (sI s1 6 2 (kI s1 6 1)) 8 1)) 6 0)) 8 1 (kI (sI (sI (sI s1 6 2 (kI s1 6 1)) 8 2 (kI (sI s1 6 2 (kI s1 6 1)) 8 1)) 6 1 (kI (sI (sI s1 6 2 (kI s1 6 1)) 8 2 (kI (sI s1 6 2 (kI s1 6 1)) 8 1)) 6 0)) 8 0)) 6 0 rank) 8 0 value) 9 1 ((kI (sI (sI (sI (sI (sI (sI s1 6 2 (kI s1 6 1)) 8 2 (kI (sI s1 6 2 (kI s1 6 1)) 8 1)) 6 1 (kI (sI (sI s1 6 2 (kI s1 6 1)) 8 2 (kI (sI s1 6 2 (kI s1 6 1)) 8 1)) 6 0)) 8 1 (kI (sI (sI (sI s1 6 2 (kI s1 6 1)) 8 2 (kI (sI s1 6 2 (kI s1 6 1)) 8 1)) 6 1 (kI (sI (sI s1 6 2 (kI s1 6 1)) 8 2 (kI (sI s1 6 2 (kI s1 6 1)) 8 1)) 6 0)) 8 0)) 6 0 rank) 8 0 value) 9 1) + 1)
          else
            if rank ≤ (kI s1 6 2) then
              sI (sI (sI s1 6 3 rank) 8 3 value) 9 1 ((kI (sI (sI s1 6 3 rank) 8 3 value) 9 1) + 1)
            else
              if rank ≤ (kI (sI (sI s1 6 3 (kI s1 6 2)) 8 3 (kI (sI s1 6 3 (kI s1 6 2)) 8 2)) 6 1) then
                sI (sI (sI (sI (sI s1 6 3 (kI s1 6 2)) 8 3 (kI (sI s1 6 3 (kI s1 6 2)) 8 2)) 6 2 rank) 8 2 value) 9 1 ((kI (sI (sI (sI (sI s1 6 3 (kI s1 6 2)) 8 3 (kI (sI s1 6 3 (kI s1 6 2)) 8 2)) 6 2 rank) 8 2 value) 9 1) + 1)
              else
                if rank ≤ (kI (sI (sI (sI (sI s1 6 3 (kI s1 6 2)) 8 3 (kI (sI s1 6 3 (kI s1 6 2)) 8 2)) 6 2 (kI (sI (sI s1 6 3 (kI s1 6 2)) 8 3 (kI (sI s1 6 3 (kI s1 6 2)) 8 2)) 6 1)) 8 2 (kI (sI (sI (sI s1 6 3 (kI s1 6 2)) 8 3 (kI (sI s1 6 3 (kI s1 6 2)) 8 2)) 6 2 (kI (sI (sI s1 6 3 (kI s1 6 2)) 8 3 (kI (sI s1 6 3 (kI s1 6 2)) 8 2)) 6 1)) 8 1)) 6 0) then
                  sI (sI (sI (sI (sI (sI (sI s1 6 3 (kI s1 6 2)) 8 3 (kI (sI s1 6 3 (kI s1 6 2)) 8 2)) 6 2 (kI (sI (sI s1 6 3 (kI s1 6 2)) 8 3 (kI (sI s1 6 3 (kI s1 6 2)) 8 2)) 6 1)) 8 2 (kI (sI (sI (sI s1 6 3 (kI s1 6 2)) 8 3 (kI (sI s1 6 3 (kI s1 6 2)) 8 2)) 6 2 (kI (sI (sI s1 6 3 (kI s1 6 2)) 8 3 (kI (sI s1 6 3 (kI s1 6 2)) 8 2)) 6 1)) 8 1)) 6 1 rank) 8 1 value) 9 1 ((kI (sI (sI (sI (sI (sI (sI s1 6 3 (kI s1 6 2)) 8 3 (kI (sI s1 6 3 (kI s1 6 2)) 8 2)) 6 2 (kI (sI (sI s1 6 3 (kI s1 6 2)) 8 3 (kI (sI s1 6 3 (kI s1 6 2)) 8 2)) 6 1)) 8 2 (kI (sI (sI (sI s1 6 3 (kI s1 6 2)) 8 3 (kI (sI s1 6 3 (kI s1 6 2)) 8 2)) 6 2 (kI (sI (sI s1 6 3 (kI s1 6 2)) 8 3 (kI (sI s1 6 3 (kI s1 6 2)) 8 2)) 6 1)) 8 1)) 6 1 rank) 8 1 value) 9 1) + 1)
                else
                  sI (sI (sI (sI (sI (sI (sI (sI (sI s1 6 3 (kI s1 6 2)) 8 3 (kI (sI s1 6 3 (kI s1 6 2)) 8 2)) 6 2 (kI (sI (sI s1 6 3 (kI s1 6 2)) 8 3 (kI (sI s1 6 3 (kI s1 6 2)) 8 2)) 6 1)) 8 2 (kI (sI (sI (sI s1 6 3 (kI s1 6 2)) 8 3 (kI (sI s1 6 3 (kI s1 6 2)) 8 2)) 6 2 (kI (sI (sI s1 6 3 (kI s1 6 2)) 8 3 (kI (sI s1 6 3 (kI s1 6 2)) 8 2)) 6 1)) 8 1)) 6 1 (kI (sI (sI (sI (sI s1 6 3 (kI s1 6 2)) 8 3 (kI (sI s1 6 3 (kI s1 6 2)) 8 2)) 6 2 (kI (sI (sI s1 6 3 (kI s1 6 2)) 8 3 (kI (sI s1 6 3 (kI s1 6 2)) 8 2)) 6 1)) 8 2 (kI (sI (sI (sI s1 6 3 (kI s1 6 2)) 8 3 (kI (sI s1 6 3 (kI s1 6 2)) 8 2)) 6 2 (kI (sI (sI s1 6 3 (kI s1 6 2)) 8 3 (kI (sI s1 6 3 (kI s1 6 2)) 8 2)) 6 1)) 8 1)) 6 0)) 8 1 (kI (sI (sI (sI (sI (sI s1 6 3 (kI s1 6 2)) 8 3 (kI (sI s1 6 3 (kI s1 6 2)) 8 2)) 6 2 (kI (sI (sI s1 6 3 (kI s1 6 2)) 8 3 (kI (sI s1 6 3 (kI s1 6 2)) 8 2)) 6 1)) 8 2 (kI (sI (sI (sI s1 6 3 (kI s1 6 2)) 8 3 (kI (sI s1 6 3 (kI s1 6 2)) 8 2)) 6 2 (kI (sI (sI s1 6 3 (kI s1 6 2)) 8 3 (kI (sI s1 6 3 (kI s1 6 2)) 8 2)) 6 1)) 8 1)) 6 1 (kI (sI (sI (sI (sI s1 6 3 (kI s1 6 2)) 8 3 (kI (sI s1 6 3 (kI s1 6 2)) 8 2)) 6 2 (kI (sI (sI s1 6 3 (kI s1 6 2)) 8 3 (kI (sI s1 6 3 (kI s1 6 2)) 8 2)) 6 1)) 8 2 (kI (sI (sI (sI s1 6 3 (kI s1 6 2)) 8 3 (kI (sI s1 6 3 (kI s1 6 2)) 8 2)) 6 2 (kI (sI (sI s1 6 3 (kI s1 6 2)) 8 3 (kI (sI s1 6 3 (kI s1 6 2)) 8 2)) 6 1)) 8 1)) 6 0)) 8 0)) 6 0 rank) 8 0 value) 9 1 ((kI (sI (sI (sI (sI (sI (sI (sI (sI s1 6 3 (kI s1 6 2)) 8 3 (kI (sI s1 6 3 (kI s1 6 2)) 8 2)) 6 2 (kI (sI (sI s1 6 3 (kI s1 6 2)) 8 3 (kI (sI s1 6 3 (kI s1 6 2)) 8 2)) 6 1)) 8 2 (kI (sI (sI (sI s1 6 3 (kI s1 6 2)) 8 3 (kI (sI s1 6 3 (kI s1 6 2)) 8 2)) 6 2 (kI (sI (sI s1 6 3 (kI s1 6 2)) 8 3 (kI (sI s1 6 3 (kI s1 6 2)) 8 2)) 6 1)) 8 1)) 6 1 (kI (sI (sI (sI (sI s1 6 3 (kI s1 6 2)) 8 3 (kI (sI s1 6 3 (kI s1 6 2)) 8 2)) 6 2 (kI (sI (sI s1 6 3 (kI s1 6 2)) 8 3 (kI (sI s1 6 3 (kI s1 6 2)) 8 2)) 6 1)) 8 2 (kI (sI (sI (sI s1 6 3 (kI s1 6 2)) 8 3 (kI (sI s1 6 3 (kI s1 6 2)) 8 2)) 6 2 (kI (sI (sI s1 6 3 (kI s1 6 2)) 8 3 (kI (sI s1 6 3 (kI s1 6 2)) 8 2)) 6 1)) 8 1)) 6 0)) 8 1 (kI (sI (sI (sI (sI (sI s1 6 3 (kI s1 6 2)) 8 3 (kI (sI s1 6 3 (kI s1 6 2)) 8 2)) 6 2 (kI (sI (sI s1 6 3 (kI s1 6 2)) 8 3 (kI (sI s1 6 3 (kI s1 6 2)) 8 2)) 6 1)) 8 2 (kI (sI (sI (sI s1 6 3 (kI s1 6 2)) 8 3 (kI (sI s1 6 3 (kI s1 6 2)) 8 2)) 6 2 (kI (sI (sI s1 6 3 (kI s1 6 2)) 8 3 (kI (sI s1 6 3 (kI s1 6 2)) 8 2)) 6 1)) 8 1)) 6 1 (kI (sI (sI (sI (sI s1 6 3 (kI s1 6 2)) 8 3 (kI (sI s1 6 3 (kI s1 6 2)) 8 2)) 6 2 (kI (sI (sI s1 6 3 (kI s1 6 2)) 8 3 (kI (sI s1 6 3 (kI s1 6 2)) 8 2)) 6 1)) 8 2 (kI (sI (sI (sI s1 6 3 (kI s1 6 2)) 8 3 (kI (sI s1 6 3 (kI s1 6 2)) 8 2)) 6 2 (kI (sI (sI s1 6 3 (kI s1 6 2)) 8 3 (kI (sI s1 6 3 (kI s1 6 2)) 8 2)) 6 1)) 8 1)) 6 0)) 8 0)) 6 0 rank) 8 0 value) 9 1) + 1)
    else
      s1)
def xf_insert (σ : kx_S) (q : Nat) (rank : Int32) (value : Int32) : kx_S := if q = 0 then xf_insert_0 σ rank value else xf_insert_1 σ rank value
def xf_removeFirst_0 (σ : kx_S)  : Int32 × kx_S :=
  kk_b (xf_isEmpty_0 σ) (fun r1 s1 =>
    if r1 = 0 then
      if (kI s1 9 0) = 1 then
        (kI s1 7 0, sI s1 9 0 ((kI s1 9 0) - 1))
      else
        if (kI s1 9 0) = 2 then
          (kI s1 7 0, sI (sI (sI s1 9 0 ((kI s1 9 0) - 1)) 5 0 (kI (sI s1 9 0 ((kI s1 9 0) - 1)) 5 1)) 7 0 (kI (sI (sI s1 9 0 ((kI s1 9 0) - 1)) 5 0 (kI (sI s1 9 0 ((kI s1 9 0) - 1)) 5 1)) 7 1))
        else
          if (kI s1 9 0) = 3 then
            (kI s1 7 0, sI (sI (sI (sI (sI s1 9 0 ((kI s1 9 0) - 1)) 5 0 (kI (sI s1 9 0 ((kI s1 9 0) - 1)) 5 1)) 7 0 (kI (sI (sI s1 9 0 ((kI s1 9 0) - 1)) 5 0 (kI (sI s1 9 0 ((kI s1 9 0) - 1)) 5 1)) 7 1)) 5 1 (kI (sI (sI (sI s1 9 0 ((kI s1 9 0) - 1)) 5 0 (kI (sI s1 9 0 ((kI s1 9 0) - 1)) 5 1)) 7 0 (kI (sI (sI s1 9 0 ((kI s1 9 0) - 1)) 5 0 (kI (sI s1 9 0 ((kI s1 9 0) - 1)) 5 1)) 7 1)) 5 2)) 7 1 (kI (sI (sI (sI (sI s1 9 0 ((kI s1 9 0) - 1)) 5 0 (kI (sI s1 9 0 ((kI s1 9 0) - 1)) 5 1)) 7 0 (kI (sI (sI s1 9 0 ((kI s1 9 0) - 1)) 5 0 (kI (sI s1 9 0 ((kI s1 9 0) - 1)) 5 1)) 7 1)) 5 1 (kI (sI (sI (sI s1 9 0 ((kI s1 9 0) - 1)) 5 0 (kI (sI s1 9 0 ((kI s1 9 0) - 1)) 5 1)) 7 0 (kI (sI (sI s1 9 0 ((kI s1 9 0) - 1)) 5 0 (kI (sI s1 9 0 ((kI s1 9 0) - 1)) 5 1)) 7 1)) 5 2)) 7 2))
          else
            (kI s1 7 0, sI (sI (sI (sI (sI (sI (sI s1 9 0 ((kI s1 9 0) - 1)) 5 0 (kI (sI s1 9 0 ((kI s1 9 0) - 1)) 5 1)) 7 0 (kI (sI (sI s1 9 0 ((kI s1 9 0) - 1)) 5 0 (kI (sI s1 9 0 ((kI s1 9 0) - 1)) 5 1)) 7 1)) 5 1 (kI (sI (sI (sI s1 9 0 ((kI s1 9 0) - 1)) 5 0 (kI (sI s1 9 0 ((kI s1 9 0) - 1)) 5 1)) 7 0 (kI (sI (sI s1 9 0 ((kI s1 9 0) - 1)) 5 0 (kI (sI s1 9 0 ((kI s1 9 0) - 1)) 5 1)) 7 1)) 5 2)) 7 1 (kI (sI (sI (sI (sI s1 9 0 ((kI s1 9 0) - 1)) 5 0 (kI (sI s1 9 0 ((kI s1 9 0) - 1)) 5 1)) 7 0 (kI (sI (sI s1 9 0 ((kI s1 9 0) - 1)) 5 0 (kI (sI s1 9 0 ((kI s1 9 0) - 1)) 5 1)) 7 1)) 5 1 (kI (sI (sI (sI s1 9 0 ((kI s1 9 0) - 1)) 5 0 (kI (sI s1 9 0 ((kI s1 9 0) - 1)) 5 1)) 7 0 (kI (sI (sI s1 9 0 ((kI s1 9 0) - 1)) 5 0 (kI (sI s1 9 0 ((kI s1 9 0) - 1)) 5 1)) 7 1)) 5 2)) 7 2)) 5 2 (kI (sI (sI (sI (sI (sI s1 9 0 ((kI s1 9 0) - 1)) 5 0 (kI (sI s1 9 0 ((kI s1 9 0) - 1)) 5 1)) 7 0 (kI (sI (sI s1 9 0 ((kI s1 9 0) - 1)) 5 0 (kI (sI s1 9 0 ((kI s1 9 0) - 1)) 5 1)) 7 1)) 5 1 (kI (sI (sI (sI s1 9 0 ((kI s1 9 0) - 1)) 5 0 (kI (sI s1 9 0 ((kI s1 9 0) - 1)) 5 1)) 7 0 (kI (sI (sI s1 9 0 ((kI s1 9 0) - 1)) 5 0 (kI (sI s1 9 0 ((kI s1 9 0) - 1)) 5 1)) 7 1)) 5 2)) 7 1 (kI (sI (sI (sI (sI s1 9 0 ((kI s1 9 0) - 1)) 5 0 (kI (sI s1 9 0 ((kI s1 9 0) - 1)) 5 1)) 7 0 (kI (sI (sI s1 9 0 ((kI s1 9 0) - 1)) 5 0 (kI (sI s1 9 0 ((kI s1 9 0) - 1)) 5 1)) 7 1)) 5 1 (kI (sI (sI (sI s1 9 0 ((kI s1 9 0) - 1)) 5 0 (kI (sI s1 9 0 ((kI s1 9 0) - 1)) 5 1)) 7 0 (kI (sI (sI s1 9 0 ((kI s1 9 0) - 1)) 5 0 (kI (sI s1 9 0 ((kI s1 9 0) - 1)) 5 1)) 7 1)) 5 2)) 7 2)) 5 3)) 7 2 (kI (sI (sI (sI (sI (sI (sI s1 9 0 ((kI s1 9 0) - 1)) 5 0 (kI (sI s1 9 0 ((kI s1 9 0) - 1)) 5 1)) 7 0 (kI (sI (sI s1 9 0 ((kI s1 9 0) - 1)) 5 0 (kI (sI s1 9 0 ((kI s1 9 0) - 1)) 5 1)) 7 1)) 5 1 (kI (sI (sI (sI s1 9 0 ((kI s1 9 0) - 1)) 5 0 (kI (sI s1 9 0 ((kI s1 9 0) - 1)) 5 1)) 7 0 (kI (sI (sI s1 9 0 ((kI s1 9 0) - 1)) 5 0 (kI (sI s1 9 0 ((kI s1 9 0) - 1)) 5 1)) 7 1)) 5 2)) 7 1 (kI (sI (sI (sI (sI s1 9 0 ((kI s1 9 0) - 1)) 5 0 (kI (sI s1 9 0 ((kI s1 9 0) - 1)) 5 1)) 7 0 (kI (sI (sI s1 9 0 ((kI s1 9 0) - 1)) 5 0 (kI (sI s1 9 0 ((kI s1 9 0) - 1)) 5 1)) 7 1)) 5 1 (kI (sI (sI (sI s1 9 0 ((kI s1 9 0) - 1)) 5 0 (kI (sI s1 9 0 ((kI s1 9 0) - 1)) 5 1)) 7 0 (kI (sI (sI s1 9 0 ((kI s1 9 0) - 1)) 5 0 (kI (sI s1 9 0 ((kI s1 9 0) - 1)) 5 1)) 7 1)) 5 2)) 7 2)) 5 2 (kI (sI (sI (sI (sI (sI s1 9 0 ((kI s1 9 0) - 1)) 5 0 (kI (sI s1 9 0 ((kI s1 9 0) - 1)) 5 1)) 7 0 (kI (sI (sI s1 9 0 ((kI s1 9 0) - 1)) 5 0 (kI (sI s1 9 0 ((kI s1 9 0) - 1)) 5 1)) 7 1)) 5 1 (kI (sI (sI (sI s1 9 0 ((kI s1 9 0) - 1)) 5 0 (kI (sI s1 9 0 ((kI s1 9 0) - 1)) 5 1)) 7 0 (kI (sI (sI s1 9 0 ((kI s1 9 0) - 1)) 5 0 (kI (sI s1 9 0 ((kI s1 9 0) - 1)) 5 1)) 7 1)) 5 2)) 7 1 (kI (sI (sI (sI (sI s1 9 0 ((kI s1 9 0) - 1)) 5 0 (kI (sI s1 9 0 ((kI s1 9 0) - 1)) 5 1)) 7 0 (kI (sI (sI s1 9 0 ((kI s1 9 0) - 1)) 5 0 (kI (sI s1 9 0 ((kI s1 9 0) - 1)) 5 1)) 7 1)) 5 1 (kI (sI (sI (sI s1 9 0 ((kI s1 9 0) - 1)) 5 0 (kI (sI s1 9 0 ((kI s1 9 0) - 1)) 5 1)) 7 0 (kI (sI (sI s1 9 0 ((kI s1 9 0) - 1)) 5 0 (kI (sI s1 9 0 ((kI s1 9 0) - 1)) 5 1)) 7 1)) 5 2)) 7 2)) 5 3)) 7 3))
    else
      (0, s1))
def xf_removeFirst_1 (σ : kx_S)  : Int32 × kx_S :=
  kk_b (xf_isEmpty_1 σ) (fun r1 s1 =>
    if r1 = 0 then
      if (kI s1 9 1) = 1 then
        (kI s1 8 0, sI s1 9 1 ((kI s1 9 1) - 1))
      else
        if (kI s1 9 1) = 2 then
          (kI s1 8 0, sI (sI (sI s1 9 1 ((kI s1 9 1) - 1)) 6 0 (kI (sI s1 9 1 ((kI s1 9 1) - 1)) 6 1)) 8 0 (kI (sI (sI s1 9 1 ((kI s1 9 1) - 1)) 6 0 (kI (sI s1 9 1 ((kI s1 9 1) - 1)) 6 1)) 8 1))
        else
          if (kI s1 9 1) = 3 then
            (kI s1 8 0, sI (sI (sI (sI (sI s1 9 1 ((kI s1 9 1) - 1)) 6 0 (kI (sI s1 9 1 ((kI s1 9 1) - 1)) 6 1)) 8 0 (kI (sI (sI s1 9 1 ((kI s1 9 1) - 1)) 6 0 (kI (sI s1 9 1 ((kI s1 9 1) - 1)) 6 1)) 8 1)) 6 1 (kI (sI (sI (sI s1 9 1 ((kI s1 9 1) - 1)) 6 0 (kI (sI s1 9 1 ((kI s1 9 1) - 1)) 6 1)) 8 0 (kI (sI (sI s1 9 1 ((kI s1 9 1) - 1)) 6 0 (kI (sI s1 9 1 ((kI s1 9 1) - 1)) 6 1)) 8 1)) 6 2)) 8 1 (kI (sI (sI (sI (sI s1 9 1 ((kI s1 9 1) - 1)) 6 0 (kI (sI s1 9 1 ((kI s1 9 1) - 1)) 6 1)) 8 0 (kI (sI (sI s1 9 1 ((kI s1 9 1) - 1)) 6 0 (kI (sI s1 9 1 ((kI s1 9 1) - 1)) 6 1)) 8 1)) 6 1 (kI (sI (sI (sI s1 9 1 ((kI s1 9 1) - 1)) 6 0 (kI (sI s1 9 1 ((kI s1 9 1) - 1)) 6 1)) 8 0 (kI (sI (sI s1 9 1 ((kI s1 9 1) - 1)) 6 0 (kI (sI s1 9 1 ((kI s1 9 1) - 1)) 6 1)) 8 1)) 6 2)) 8 2))
          else
            (kI s1 8 0, sI (sI (sI (sI (sI (sI (sI s1 9 1 ((kI s1 9 1) - 1)) 6 0 (kI (sI s1 9 1 ((kI s1 9 1) - 1)) 6 1)) 8 0 (kI (sI (sI s1 9 1 ((kI s1 9 1) - 1)) 6 0 (kI (sI s1 9 1 ((kI s1 9 1) - 1)) 6 1)) 8 1)) 6 1 (kI (sI (sI (sI s1 9 1 ((kI s1 9 1) - 1)) 6 0 (kI (sI s1 9 1 ((kI s1 9 1) - 1)) 6 1)) 8 0 (kI (sI (sI s1 9 1 ((kI s1 9 1) - 1)) 6 0 (kI (sI s1 9 1 ((kI s1 9 1) - 1)) 6 1)) 8 1)) 6 2)) 8 1 (kI (sI (sI (sI (sI s1 9 1 ((kI s1 9 1) - 1)) 6 0 (kI (sI s1 9 1 ((kI s1 9 1) - 1)) 6 1)) 8 0 (kI (sI (sI s1 9 1 ((kI s1 9 1) - 1)) 6 0 (kI (sI s1 9 1 ((kI s1 9 1) - 1)) 6 1)) 8 1)) 6 1 (kI (sI (sI (sI s1 9 1 ((kI s1 9 1) - 1)) 6 0 (kI (sI s1 9 1 ((kI s1 9 1) - 1)) 6 1)) 8 0 (kI (sI (sI s1 9 1 ((kI s1 9 1) - 1)) 6 0 (kI (sI s1 9 1 ((kI s1 9 1) - 1)) 6 1)) 8 1)) 6 2)) 8 2)) 6 2 (kI (sI (sI (sI (sI (sI s1 9 1 ((kI s1 9 1) - 1)) 6 0 (kI (sI s1 9 1 ((kI s1 9 1) - 1)) 6 1)) 8 0 (kI (sI (sI s1 9 1 ((kI s1 9 1) - 1)) 6 0 (kI (sI s1 9 1 ((kI s1 9 1) - 1)) 6 1)) 8 1)) 6 1 (kI (sI (sI (sI s1 9 1 ((kI s1 9 1) - 1)) 6 0 (kI (sI s1 9 1 ((kI s1 9 1) - 1)) 6 1)) 8 0 (kI (sI (sI s1 9 1 ((kI s1 9 1) - 1)) 6 0 (kI (sI s1 9 1 ((kI s1 9 1) - 1)) 6 1)) 8 1)) 6 2)) 8 1 (kI (sI (sI (sI (sI s1 9 1 ((kI s1 9 1) - 1)) 6 0 (kI (sI s1 9 1 ((kI s1 9 1) - 1)) 6 1)) 8 0 (kI (sI (sI s1 9 1 ((kI s1 9 1) - 1)) 6 0 (kI (sI s1 9 1 ((kI s1 9 1) - 1)) 6 1)) 8 1)) 6 1 (kI (sI (sI (sI s1 9 1 ((kI s1 9 1) - 1)) 6 0 (kI (sI s1 9 1 ((kI s1 9 1) - 1)) 6 1)) 8 0 (kI (sI (sI s1 9 1 ((kI s1 9 1) - 1)) 6 0 (kI (sI s1 9 1 ((kI s1 9 1) - 1)) 6 1)) 8 1)) 6 2)) 8 2)) 6 3)) 8 2 (kI (sI (sI (sI (sI (sI (sI s1 9 1 ((kI s1 9 1) - 1)) 6 0 (kI (sI s1 9 1 ((kI s1 9 1) - 1)) 6 1)) 8 0 (kI (sI (sI s1 9 1 ((kI s1 9 1) - 1)) 6 0 (kI (sI s1 9 1 ((kI s1 9 1) - 1)) 6 1)) 8 1)) 6 1 (kI (sI (sI (sI s1 9 1 ((kI s1 9 1) - 1)) 6 0 (kI (sI s1 9 1 ((kI s1 9 1) - 1)) 6 1)) 8 0 (kI (sI (sI s1 9 1 ((kI s1 9 1) - 1)) 6 0 (kI (sI s1 9 1 ((kI s1 9 1) - 1)) 6 1)) 8 1)) 6 2)) 8 1 (kI (sI (sI (sI (sI s1 9 1 ((kI s1 9 1) - 1)) 6 0 (kI (sI s1 9 1 ((kI s1 9 1) - 1)) 6 1)) 8 0 (kI (sI (sI s1 9 1 ((kI s1 9 1) - 1)) 6 0 (kI (sI s1 9 1 ((kI s1 9 1) - 1)) 6 1)) 8 1)) 6 1 (kI (sI (sI (sI s1 9 1 ((kI s1 9 1) - 1)) 6 0 (kI (sI s1 9 1 ((kI s1 9 1) - 1)) 6 1)) 8 0 (kI (sI (sI s1 9 1 ((kI s1 9 1) - 1)) 6 0 (kI (sI s1 9 1 ((kI s1 9 1) - 1)) 6 1)) 8 1)) 6 2)) 8 2)) 6 2 (kI (sI (sI (sI (sI (sI s1 9 1 ((kI s1 9 1) - 1)) 6 0 (kI (sI s1 9 1 ((kI s1 9 1) - 1)) 6 1)) 8 0 (kI (sI (sI s1 9 1 ((kI s1 9 1) - 1)) 6 0 (kI (sI s1 9 1 ((kI s1 9 1) - 1)) 6 1)) 8 1)) 6 1 (kI (sI (sI (sI s1 9 1 ((kI s1 9 1) - 1)) 6 0 (kI (sI s1 9 1 ((kI s1 9 1) - 1)) 6 1)) 8 0 (kI (sI (sI s1 9 1 ((kI s1 9 1) - 1)) 6 0 (kI (sI s1 9 1 ((kI s1 9 1) - 1)) 6 1)) 8 1)) 6 2)) 8 1 (kI (sI (sI (sI (sI s1 9 1 ((kI s1 9 1) - 1)) 6 0 (kI (sI s1 9 1 ((kI s1 9 1) - 1)) 6 1)) 8 0 (kI (sI (sI s1 9 1 ((kI s1 9 1) - 1)) 6 0 (kI (sI s1 9 1 ((kI s1 9 1) - 1)) 6 1)) 8 1)) 6 1 (kI (sI (sI (sI s1 9 1 ((kI s1 9 1) - 1)) 6 0 (kI (sI s1 9 1 ((kI s1 9 1) - 1)) 6 1)) 8 0 (kI (sI (sI s1 9 1 ((kI s1 9 1) - 1)) 6 0 (kI (sI s1 9 1 ((kI s1 9 1) - 1)) 6 1)) 8 1)) 6 2)) 8 2)) 6 3)) 8 3))
    else
      (0, s1))
def xf_removeFirst (σ : kx_S) (q : Nat)  : Int32 × kx_S := if q = 0 then xf_removeFirst_0 σ  else xf_removeFirst_1 σ 
def xf_deadlineAfter (σ : kx_S) (n1 : Int32) : Int64 × kx_S :=
  if n1 = 0 then
    (1000000000000, σ)
  else
    (((kI σ 2 0).toInt64) + n1.toInt64, σ)
def xf_heirOf (σ : kx_S) (t : Nat) : Int32 × kx_S :=
  if (kI σ 16 t) = 11 then
    (kI σ 3 1, σ)
  else
    if (kI σ 16 t) = 12 then
      (kI σ 3 2, σ)
    else
      ((-1), σ)
def xf_inheritOnce_L13  : Nat → Nat → Int32 → kx_S → Int32 × kx_S
  | 0, k, raised, σ =>
    (raised, σ)
  | n + 1, k, raised, σ =>
    kk_b (xf_heirOf σ k) (fun r1 s1 =>
      if r1 = (-1) then
        xf_inheritOnce_L13 n (k + 1) raised s1
      else
        if (kI s1 12 k) ≤ (kI s1 12 r1.toNatClampNeg) then
          xf_inheritOnce_L13 n (k + 1) raised s1
        else
          xf_inheritOnce_L13 n (k + 1) 1 (sI s1 12 r1.toNatClampNeg (kI s1 12 k)))
def xf_inheritOnce (σ : kx_S)  : Int32 × kx_S :=
  xf_inheritOnce_L13 8 0 0 σ
def xf_work_L69  : Nat → Nat → Int32 → kx_S → kx_S
  | 0, k, raised, σ =>
    σ
  | n + 1, k, raised, σ =>
    if raised = 0 then
      σ
    else
      kk_b (xf_inheritOnce σ) (fun r1 s1 =>
        xf_work_L69 n (k + 1) r1 s1)
def xf_work_L10  : Nat → Nat → kx_S → kx_S
  | 0, k, σ =>
    xf_work_L69 8 0 1 σ
  | n + 1, k, σ =>
    if (kI σ 3 3) = (nI k) then
      xf_work_L10 n (k + 1)  (sI σ 12 k (if kI σ 11 k < kI σ 1 0 then kI σ 1 0 else kI σ 11 k))
    else
      xf_work_L10 n (k + 1)  (sI σ 12 k (kI σ 11 k))
def xf_work (σ : kx_S)  : kx_S :=
  xf_work_L10 8 0  σ
def xf_foremost_L20 (state : Int32) (thing : Int32) : Nat → Nat → Option Nat → kx_S → Option Nat × kx_S
  | 0, k, best, σ =>
    kk_o best (
      (none, σ)) (fun best_t =>
      (some best_t, σ))
  | n + 1, k, best, σ =>
    kk_o best (
      if (kI σ 10 k) = state then
        if (kI σ 16 k) = thing then
          xf_foremost_L20 state thing n (k + 1) (some k) σ
        else
          xf_foremost_L20 state thing n (k + 1) none σ
      else
        xf_foremost_L20 state thing n (k + 1) none σ) (fun best_t =>
      if (kI σ 10 k) = state then
        if (kI σ 16 k) = thing then
          kk_b (xf_isAheadOf σ k best_t) (fun r1 s1 =>
            if r1 = 0 then
              xf_foremost_L20 state thing n (k + 1) (some best_t) s1
            else
              xf_foremost_L20 state thing n (k + 1) (some k) s1)
        else
          xf_foremost_L20 state thing n (k + 1) (some best_t) σ
      else
        xf_foremost_L20 state thing n (k + 1) (some best_t) σ)
def xf_foremost (σ : kx_S) (state : Int32) (thing : Int32) : Option Nat × kx_S :=
  kk_v (xf_work σ) (fun s2 =>
    xf_foremost_L20 state thing 8 0 none s2)
def xf_runner (σ : kx_S)  : Option Nat × kx_S :=
  kk_b (xf_foremost σ 1 0) (fun o1 s1 =>
    kk_o o1 (
      (none, s1)) (fun t1 =>
      (some t1, s1)))
def xf_firstWaiter (σ : kx_S) (thing : Int32) : Option Nat × kx_S :=
  kk_b (xf_foremost σ 2 thing) (fun o1 s1 =>
    kk_o o1 (
      (none, s1)) (fun t1 =>
      (some t1, s1)))
def xf_startTurn (σ : kx_S) (t : Nat) : kx_S :=
  sI (sJ (sJ σ 2 0 ((kJ σ 2 0) + 1)) 0 t ((kJ σ 2 0) + 1)) 14 t 0
def xf_makeReady (σ : kx_S) (t : Nat) (result : Int32) : kx_S :=
  sI (sJ (sJ (sI (sJ (sI (sI σ 10 t 1) 16 t 0) 1 t 1000000000000) 15 t result) 2 0 ((kJ (sI (sJ (sI (sI σ 10 t 1) 16 t 0) 1 t 1000000000000) 15 t result) 2 0) + 1)) 0 t ((kJ (sI (sJ (sI (sI σ 10 t 1) 16 t 0) 1 t 1000000000000) 15 t result) 2 0) + 1)) 14 t 0
def xf_block (σ : kx_S) (t : Nat) (thing : Int32) (deadline : Int64) : kx_S :=
  sJ (sJ (sJ (sI (sI σ 10 t 2) 16 t thing) 1 t deadline) 2 0 ((kJ (sJ (sI (sI σ 10 t 2) 16 t thing) 1 t deadline) 2 0) + 1)) 0 t ((kJ (sJ (sI (sI σ 10 t 2) 16 t thing) 1 t deadline) 2 0) + 1)
def xf_makeOwner (σ : kx_S) (t : Nat) (m1 : Int32) : kx_S :=
  if (kI (sI σ 3 m1.toNatClampNeg (nI t)) 10 t) = 1 then
    sI (sI σ 3 m1.toNatClampNeg (nI t)) 15 t (kI (sI σ 3 m1.toNatClampNeg (nI t)) 18 t)
  else
    kk_v (xf_makeReady (sI σ 3 m1.toNatClampNeg (nI t)) t (kI (sI σ 3 m1.toNatClampNeg (nI t)) 18 t)) (fun s1 =>
      s1)
def xf_take (σ : kx_S) (t : Nat) (m1 : Int32) : kx_S :=
  if (kI σ 3 m1.toNatClampNeg) = (-1) then
    kk_v (xf_makeOwner σ t m1) (fun s2 =>
      s2)
  else
    kk_v (xf_block σ t (10 + m1) 1000000000000) (fun s1 =>
      s1)
def xf_give (σ : kx_S) (m1 : Int32) : kx_S :=
  kk_b (xf_firstWaiter (sI σ 3 m1.toNatClampNeg (-1)) (10 + m1)) (fun o1 s1 =>
    kk_o o1 (
      s1) (fun t1 =>
      kk_v (xf_makeOwner s1 t1 m1) (fun s2 =>
        s2)))
def xf_endAwait (σ : kx_S) (t : Nat) (result : Int32) : kx_S :=
  kk_v (xf_take (sI (sI σ 15 t result) 18 t result) t (kI (sI (sI σ 15 t result) 18 t result) 17 t)) (fun s1 =>
    s1)
def xf_arrive (σ : kx_S) (q : Int32) (rank : Int32) (value : Int32) : kx_S :=
  kk_b (xf_firstWaiter σ (50 + q)) (fun o1 s1 =>
    kk_o o1 (
      kk_v (xf_insert s1 q.toNatClampNeg rank value) (fun s2 =>
        s2)) (fun t1 =>
      kk_v (xf_makeReady s1 t1 value) (fun s3 =>
        s3)))
def xf_useTick (σ : kx_S) (t : Nat) : kx_S :=
  if (kI (sI σ 14 t ((kI σ 14 t) + 1)) 13 t) = 0 then
    sI σ 14 t ((kI σ 14 t) + 1)
  else
    if (kI (sI σ 14 t ((kI σ 14 t) + 1)) 14 t) = (kI (sI σ 14 t ((kI σ 14 t) + 1)) 0 0) then
      kk_v (xf_startTurn (sI σ 14 t ((kI σ 14 t) + 1)) t) (fun s1 =>
        s1)
    else
      sI σ 14 t ((kI σ 14 t) + 1)
def xf_endWait (σ : kx_S) (t : Nat) : kx_S :=
  if (kI σ 16 t) = 60 then
    kk_v (xf_makeReady σ t 0) (fun s3 =>
      s3)
  else
    if (xf_isBelow ((kI σ 16 t) - 20) 2) = 0 then
      kk_v (xf_makeReady σ t 2) (fun s1 =>
        s1)
    else
      kk_v (xf_endAwait σ t 2) (fun s2 =>
        s2)
def xf_tickOnce_L35  : Nat → Nat → kx_S → kx_S
  | 0, k, σ =>
    σ
  | n + 1, k, σ =>
    if (lg_cmp (kJ σ 1 k) ((kI σ 2 0).toInt64)) = 0 then
      kk_v (xf_endWait σ k) (fun s1 =>
        xf_tickOnce_L35 n (k + 1)  s1)
    else
      xf_tickOnce_L35 n (k + 1)  σ
def xf_tickOnce (σ : kx_S)  : kx_S :=
  kk_b (xf_runner σ) (fun o2 s2 =>
    kk_o o2 (
      xf_tickOnce_L35 8 0  (sI s2 2 0 ((kI s2 2 0) + 1))) (fun t2 =>
      kk_v (xf_useTick (sI s2 2 0 ((kI s2 2 0) + 1)) t2) (fun s3 =>
        xf_tickOnce_L35 8 0  s3)))
def xf_leastFree_L10  : Nat → Nat → kx_S → Option Nat × kx_S
  | 0, k, σ =>
    (none, σ)
  | n + 1, k, σ =>
    if (kI σ 10 k) = 0 then
      (some k, σ)
    else
      xf_leastFree_L10 n (k + 1)  σ
def xf_leastFree (σ : kx_S)  : Option Nat × kx_S :=
  xf_leastFree_L10 8 0  σ
def xf_readyThreads_L13  : Nat → Nat → Int32 → kx_S → Int32 × kx_S
  | 0, k, ready, σ =>
    (ready, σ)
  | n + 1, k, ready, σ =>
    if (kI σ 10 k) = 1 then
      xf_readyThreads_L13 n (k + 1) (ready + 1) σ
    else
      xf_readyThreads_L13 n (k + 1) ready σ
def xf_readyThreads (σ : kx_S)  : Int32 × kx_S :=
  xf_readyThreads_L13 8 0 0 σ
def xf_ownsAny_L11 (t : Nat) : Nat → Nat → kx_S → Int32 × kx_S
  | 0, k, σ =>
    (0, σ)
  | n + 1, k, σ =>
    if (kI σ 3 k) = (nI t) then
      (1, σ)
    else
      xf_ownsAny_L11 t n (k + 1)  σ
def xf_ownsAny (σ : kx_S) (t : Nat) : Int32 × kx_S :=
  xf_ownsAny_L11 t 4 0  σ
def xf_spawn (σ : kx_S) (base : Int32) (sliced : Int32) : Int32 × kx_S :=
  if (xf_isPriority base) = 0 then
    ((-1), σ)
  else
    kk_b (xf_leastFree σ) (fun o1 s1 =>
      kk_o o1 (
        ((-1), s1)) (fun t1 =>
        kk_v (xf_makeReady (sI (sI s1 11 t1 base) 13 t1 sliced) t1 0) (fun s2 =>
          (nI t1, s2))))
def xf_priority (σ : kx_S) (thread : Int32) (base : Int32) : Int32 × kx_S :=
  if (xf_isBelow thread 8) = 0 then
    ((-1), σ)
  else
    if (xf_isPriority base) = 0 then
      ((-1), σ)
    else
      if (kI σ 10 thread.toNatClampNeg) = 0 then
        ((-1), σ)
      else
        if (kI σ 10 thread.toNatClampNeg) = 3 then
          ((-1), σ)
        else
          if (kI σ 3 3) = thread then
            if base ≤ (kI σ 1 0) then
              if (kI (sI σ 11 thread.toNatClampNeg base) 10 thread.toNatClampNeg) = 1 then
                (0, sJ (sJ (sI σ 11 thread.toNatClampNeg base) 2 0 ((kJ (sI σ 11 thread.toNatClampNeg base) 2 0) + 1)) 0 thread.toNatClampNeg ((kJ (sI σ 11 thread.toNatClampNeg base) 2 0) + 1))
              else
                (0, sI σ 11 thread.toNatClampNeg base)
            else
              ((-1), σ)
          else
            if (kI (sI σ 11 thread.toNatClampNeg base) 10 thread.toNatClampNeg) = 1 then
              (0, sJ (sJ (sI σ 11 thread.toNatClampNeg base) 2 0 ((kJ (sI σ 11 thread.toNatClampNeg base) 2 0) + 1)) 0 thread.toNatClampNeg ((kJ (sI σ 11 thread.toNatClampNeg base) 2 0) + 1))
            else
              (0, sI σ 11 thread.toNatClampNeg base)
def xf_pass (σ : kx_S)  : Int32 × kx_S :=
  kk_b (xf_runner σ) (fun o1 s1 =>
    kk_o o1 (
      ((-1), s1)) (fun t1 =>
      kk_v (xf_startTurn s1 t1) (fun s2 =>
        (0, s2))))
def xf_lock (σ : kx_S) (m1 : Int32) : Int32 × kx_S :=
  kk_b (xf_runner σ) (fun o1 s1 =>
    kk_o o1 (
      if (xf_isBelow m1 4) = 0 then
        ((-1), s1)
      else
        ((-1), s1)) (fun t1 =>
      if (xf_isBelow m1 4) = 0 then
        ((-1), s1)
      else
        if (kI s1 3 m1.toNatClampNeg) = (nI t1) then
          ((-1), s1)
        else
          if m1 = 3 then
            if (kI s1 11 t1) ≤ (kI s1 1 0) then
              kk_v (xf_take (sI s1 18 t1 0) t1 m1) (fun s3 =>
                if (kI s3 10 t1) = 1 then
                  (0, s3)
                else
                  (1, s3))
            else
              ((-1), s1)
          else
            kk_v (xf_take (sI s1 18 t1 0) t1 m1) (fun s2 =>
              if (kI s2 10 t1) = 1 then
                (0, s2)
              else
                (1, s2))))
def xf_unlock (σ : kx_S) (m1 : Int32) : Int32 × kx_S :=
  kk_b (xf_runner σ) (fun o1 s1 =>
    kk_o o1 (
      if (xf_isBelow m1 4) = 0 then
        ((-1), s1)
      else
        ((-1), s1)) (fun t1 =>
      if (xf_isBelow m1 4) = 0 then
        ((-1), s1)
      else
        if (kI s1 3 m1.toNatClampNeg) = (nI t1) then
          kk_v (xf_give s1 m1) (fun s2 =>
            (0, s2))
        else
          ((-1), s1)))
def xf_await (σ : kx_S) (cc1 : Int32) (m1 : Int32) (n1 : Int32) : Int32 × kx_S :=
  if (xf_isBelow cc1 2) = 0 then
    ((-1), σ)
  else
    if (xf_isBelow m1 4) = 0 then
      ((-1), σ)
    else
      if (xf_isTimeout n1) = 0 then
        ((-1), σ)
      else
        kk_b (xf_runner σ) (fun o1 s1 =>
          kk_o o1 (
            ((-1), s1)) (fun t1 =>
            if (kI s1 3 m1.toNatClampNeg) = (nI t1) then
              kk_b (xf_deadlineAfter (sI s1 17 t1 m1) n1) (fun r2 s2 =>
                kk_v (xf_block s2 t1 (20 + cc1) r2) (fun s3 =>
                  kk_v (xf_give s3 m1) (fun s4 =>
                    (1, s4))))
            else
              ((-1), s1)))
def xf_signal_L27 (cc1 : Int32) (all : Int32) : Nat → Nat → Int32 → kx_S → Int32 × kx_S
  | 0, k, woken, σ =>
    (woken, σ)
  | n + 1, k, woken, σ =>
    kk_b (xf_firstWaiter σ (20 + cc1)) (fun o1 s1 =>
      kk_o o1 (
        (woken, s1)) (fun t1 =>
        kk_v (xf_endAwait s1 t1 0) (fun s2 =>
          xf_signal_L27 cc1 all n (k + 1) (woken + 1) s2)))
def xf_signal (σ : kx_S) (cc1 : Int32) (all : Int32) : Int32 × kx_S :=
  if (xf_isBelow cc1 2) = 0 then
    ((-1), σ)
  else
    if all = 0 then
      kk_b (xf_firstWaiter σ (20 + cc1)) (fun o3 s3 =>
        kk_o o3 (
          (0, s3)) (fun t3 =>
          kk_v (xf_endAwait s3 t3 0) (fun s4 =>
            (1, s4))))
    else
      xf_signal_L27 cc1 all 8 0 0 σ
def xf_down (σ : kx_S) (sem : Int32) (n1 : Int32) : Int32 × kx_S :=
  kk_b (xf_runner σ) (fun o1 s1 =>
    kk_o o1 (
      if (xf_isBelow sem 2) = 0 then
        ((-1), s1)
      else
        if (xf_isTimeout n1) = 0 then
          ((-1), s1)
        else
          ((-1), s1)) (fun t1 =>
      if (xf_isBelow sem 2) = 0 then
        ((-1), s1)
      else
        if (xf_isTimeout n1) = 0 then
          ((-1), s1)
        else
          if (kI s1 4 sem.toNatClampNeg) = 0 then
            kk_b (xf_deadlineAfter s1 n1) (fun r2 s2 =>
              kk_v (xf_block s2 t1 (30 + sem) r2) (fun s3 =>
                (1, s3)))
          else
            (0, sI (sI s1 4 sem.toNatClampNeg ((kI s1 4 sem.toNatClampNeg) - 1)) 15 t1 0)))
def xf_post (σ : kx_S) (sem : Int32) : Int32 × kx_S :=
  if (xf_isBelow sem 2) = 0 then
    ((-1), σ)
  else
    kk_b (xf_firstWaiter σ (30 + sem)) (fun o1 s1 =>
      kk_o o1 (
        if (kI s1 4 sem.toNatClampNeg) < 99 then
          (0, sI s1 4 sem.toNatClampNeg ((kI s1 4 sem.toNatClampNeg) + 1))
        else
          ((-1), s1)) (fun t1 =>
        kk_v (xf_makeReady s1 t1 0) (fun s2 =>
          (0, s2))))
def xf_send (σ : kx_S) (q : Int32) (rank : Int32) (value : Int32) : Int32 × kx_S :=
  kk_b (xf_runner σ) (fun o1 s1 =>
    kk_o o1 (
      if (xf_isBelow q 2) = 0 then
        ((-1), s1)
      else
        if (xf_isBelow rank 10) = 0 then
          ((-1), s1)
        else
          ((-1), s1)) (fun t1 =>
      if (xf_isBelow q 2) = 0 then
        ((-1), s1)
      else
        if (xf_isBelow rank 10) = 0 then
          ((-1), s1)
        else
          kk_b (xf_isFull s1 q.toNatClampNeg) (fun r2 s2 =>
            if r2 = 0 then
              kk_v (xf_arrive (sI s2 15 t1 0) q rank value) (fun s3 =>
                (0, s3))
            else
              kk_v (xf_block (sI (sI s2 19 t1 rank) 20 t1 value) t1 (40 + q) 1000000000000) (fun s4 =>
                (1, s4)))))
def xf_receive (σ : kx_S) (q : Int32) : Int32 × kx_S :=
  kk_b (xf_runner σ) (fun o1 s1 =>
    kk_o o1 (
      if (xf_isBelow q 2) = 0 then
        ((-1), s1)
      else
        ((-1), s1)) (fun t1 =>
      if (xf_isBelow q 2) = 0 then
        ((-1), s1)
      else
        kk_b (xf_isEmpty s1 q.toNatClampNeg) (fun r2 s2 =>
          if r2 = 0 then
            kk_b (xf_removeFirst s2 q.toNatClampNeg) (fun r3 s3 =>
              kk_b (xf_firstWaiter (sI s3 15 t1 r3) (40 + q)) (fun o4 s4 =>
                kk_o o4 (
                  (0, s4)) (fun t4 =>
                  kk_v (xf_arrive s4 q (kI s4 19 t4) (kI s4 20 t4)) (fun s5 =>
                    kk_v (xf_makeReady s5 t4 0) (fun s6 =>
                      (0, s6))))))
          else
            kk_v (xf_block s2 t1 (50 + q) 1000000000000) (fun s7 =>
              (1, s7)))))
def xf_sleep (σ : kx_S) (n1 : Int32) : Int32 × kx_S :=
  kk_b (xf_runner σ) (fun o1 s1 =>
    kk_o o1 (
      if n1 < 1 then
        ((-1), s1)
      else
        if 1000 < n1 then
          ((-1), s1)
        else
          ((-1), s1)) (fun t1 =>
      if n1 < 1 then
        ((-1), s1)
      else
        if 1000 < n1 then
          ((-1), s1)
        else
          kk_b (xf_deadlineAfter s1 n1) (fun r2 s2 =>
            kk_v (xf_block s2 t1 60 r2) (fun s3 =>
              (1, s3)))))
def xf_join (σ : kx_S) (th : Int32) : Int32 × kx_S :=
  kk_b (xf_runner σ) (fun o1 s1 =>
    kk_o o1 (
      if (xf_isBelow th 8) = 0 then
        ((-1), s1)
      else
        ((-1), s1)) (fun t1 =>
      if (xf_isBelow th 8) = 0 then
        ((-1), s1)
      else
        if (nI t1) = th then
          ((-1), s1)
        else
          if (kI s1 10 th.toNatClampNeg) = 3 then
            (0, sI (sI s1 15 t1 (kI s1 15 th.toNatClampNeg)) 10 th.toNatClampNeg 0)
          else
            if (kI s1 10 th.toNatClampNeg) = 0 then
              ((-1), s1)
            else
              kk_b (xf_firstWaiter s1 (70 + th)) (fun o2 s2 =>
                kk_o o2 (
                  kk_v (xf_block s2 t1 (70 + th) 1000000000000) (fun s3 =>
                    (1, s3))) (fun t2 =>
                  ((-1), s2)))))
def xf_exit (σ : kx_S) (value : Int32) : Int32 × kx_S :=
  kk_b (xf_runner σ) (fun o1 s1 =>
    kk_o o1 (
      ((-1), s1)) (fun t1 =>
      kk_b (xf_ownsAny s1 t1) (fun r2 s2 =>
        if r2 = 0 then
          kk_b (xf_firstWaiter s2 (70 + (nI t1))) (fun o3 s3 =>
            kk_o o3 (
              (0, sI (sI s3 15 t1 value) 10 t1 3)) (fun t3 =>
              kk_v (xf_makeReady s3 t3 value) (fun s4 =>
                (0, sI s4 10 t1 0))))
        else
          ((-1), s2))))
def xf_running (σ : kx_S)  : Int32 × kx_S :=
  kk_b (xf_runner σ) (fun o1 s1 =>
    kk_o o1 (
      ((-1), s1)) (fun t1 =>
      (nI t1, s1)))
def xf_tick_L15 (n1 : Int32) : Nat → Nat → kx_S → Int32 × kx_S
  | 0, k, σ =>
    kk_b (xf_running σ) (fun r1 s1 =>
      (r1, s1))
  | n + 1, k, σ =>
    kk_v (xf_tickOnce σ) (fun s2 =>
      xf_tick_L15 n1 n (k + 1)  s2)
def xf_tick (σ : kx_S) (n1 : Int32) : Int32 × kx_S :=
  if n1 < 1 then
    ((-1), σ)
  else
    if n1 ≤ 100 then
      xf_tick_L15 n1 n1.toNatClampNeg 0  σ
    else
      ((-1), σ)
def xf_tell (σ : kx_S) (th : Int32) (what : Int32) : Int64 × kx_S :=
  if (xf_isBelow th 8) = 0 then
    (1000000000000, σ)
  else
    if what = 0 then
      ((kI σ 10 th.toNatClampNeg).toInt64, σ)
    else
      if (kI σ 10 th.toNatClampNeg) = 0 then
        (1000000000000, σ)
      else
        if what = 1 then
          ((kI σ 11 th.toNatClampNeg).toInt64, σ)
        else
          if what = 2 then
            kk_v (xf_work σ) (fun s1 =>
              ((kI s1 12 th.toNatClampNeg).toInt64, s1))
          else
            if what = 3 then
              ((kI σ 15 th.toNatClampNeg).toInt64, σ)
            else
              if what = 4 then
                ((kI σ 16 th.toNatClampNeg).toInt64, σ)
              else
                if what = 5 then
                  (kJ σ 1 th.toNatClampNeg, σ)
                else
                  (1000000000000, σ)
def xf_owner (σ : kx_S) (m1 : Int32) : Int32 × kx_S :=
  if (xf_isBelow m1 4) = 0 then
    ((-1), σ)
  else
    (kI σ 3 m1.toNatClampNeg, σ)
def xf_count (σ : kx_S) (what : Int32) : Int32 × kx_S :=
  if what = 0 then
    (kI σ 4 what.toNatClampNeg, σ)
  else
    if what = 1 then
      (kI σ 4 what.toNatClampNeg, σ)
    else
      if what = 2 then
        (kI σ 9 ((what - 2).toNatClampNeg), σ)
      else
        if what = 3 then
          (kI σ 9 ((what - 2).toNatClampNeg), σ)
        else
          if what = 4 then
            (kI σ 2 0, σ)
          else
            if what = 5 then
              kk_b (xf_readyThreads σ) (fun r1 s1 =>
                (r1, s1))
            else
              ((-1), σ)
def mf_out (a : Int32) (b : Int32) : Int32 :=
  if a < 0 then
    1
  else
    if a < b then
      0
    else
      1
def mf_newStamp (μ : km_S)  : Int32 × km_S :=
  (mI (sM μ 3 0 ((mI μ 3 0) + 1)) 3 0, sM μ 3 0 ((mI μ 3 0) + 1))
def mf_ready (μ : km_S) (t : Int32) : km_S :=
  kk_b (mf_newStamp (sM (sM (sM μ 4 t.toNatClampNeg 1) 8 t.toNatClampNeg 0) 10 t.toNatClampNeg 0)) (fun r1 s1 =>
    sM (sM s1 6 t.toNatClampNeg r1) 7 t.toNatClampNeg 0)
def mf_block (μ : km_S) (t : Int32) (what : Int32) (due : Int32) : km_S :=
  kk_b (mf_newStamp (sM (sM (sM μ 4 t.toNatClampNeg 2) 8 t.toNatClampNeg what) 10 t.toNatClampNeg due)) (fun r1 s1 =>
    sM (sM s1 9 t.toNatClampNeg r1) 16 t.toNatClampNeg (vp_nar .boolean 0))
def mf_weigh_L66  : Nat → Nat → km_S → km_S
  | 0, k, μ =>
    μ
  | n + 1, k, μ =>
    if (mI μ 4 k) = 2 then
      if ((mI μ 8 k) - 10) = 1 then
        if (mI μ 17 ((mI μ 8 k) - 10).toNatClampNeg) < 0 then
          mf_weigh_L66 n (k + 1)  μ
        else
          if (mI μ 22 k) ≤ (mI μ 22 (mI μ 17 ((mI μ 8 k) - 10).toNatClampNeg).toNatClampNeg) then
            mf_weigh_L66 n (k + 1)  μ
          else
            mf_weigh_L66 n (k + 1)  (sM μ 22 (mI μ 17 ((mI μ 8 k) - 10).toNatClampNeg).toNatClampNeg (mI μ 22 k))
      else
        if ((mI μ 8 k) - 10) = 2 then
          if (mI μ 17 ((mI μ 8 k) - 10).toNatClampNeg) < 0 then
            mf_weigh_L66 n (k + 1)  μ
          else
            if (mI μ 22 k) ≤ (mI μ 22 (mI μ 17 ((mI μ 8 k) - 10).toNatClampNeg).toNatClampNeg) then
              mf_weigh_L66 n (k + 1)  μ
            else
              mf_weigh_L66 n (k + 1)  (sM μ 22 (mI μ 17 ((mI μ 8 k) - 10).toNatClampNeg).toNatClampNeg (mI μ 22 k))
        else
          mf_weigh_L66 n (k + 1)  μ
    else
      mf_weigh_L66 n (k + 1)  μ
def mf_weigh_L58  : Nat → Nat → km_S → km_S
  | 0, k, μ =>
    μ
  | n + 1, k, μ =>
    kk_v (mf_weigh_L66 8 0  μ) (fun s1 =>
      mf_weigh_L58 n (k + 1)  s1)
def mf_weigh_L2  : Nat → Nat → km_S → km_S
  | 0, k, μ =>
    mf_weigh_L58 8 0  μ
  | n + 1, k, μ =>
    if (mI μ 17 3) = (nI k) then
      if (mI μ 1 0) ≤ (mI μ 5 k) then
        mf_weigh_L2 n (k + 1)  (sM μ 22 k (mI μ 5 k))
      else
        mf_weigh_L2 n (k + 1)  (sM μ 22 k (mI μ 1 0))
    else
      mf_weigh_L2 n (k + 1)  (sM μ 22 k (mI μ 5 k))
def mf_weigh (μ : km_S)  : km_S :=
  mf_weigh_L2 8 0  μ
def mf_running_L8  : Nat → Nat → Int32 → km_S → Int32 × km_S
  | 0, k, best, μ =>
    (best, μ)
  | n + 1, k, best, μ =>
    if (mI μ 4 k) = 1 then
      if best < 0 then
        mf_running_L8 n (k + 1) (nI k) μ
      else
        if (mI μ 22 best.toNatClampNeg) < (mI μ 22 k) then
          mf_running_L8 n (k + 1) (nI k) μ
        else
          if (mI μ 22 k) = (mI μ 22 best.toNatClampNeg) then
            if (mI μ 6 best.toNatClampNeg) ≤ (mI μ 6 k) then
              mf_running_L8 n (k + 1) best μ
            else
              mf_running_L8 n (k + 1) (nI k) μ
          else
            mf_running_L8 n (k + 1) best μ
    else
      mf_running_L8 n (k + 1) best μ
def mf_running (μ : km_S)  : Int32 × km_S :=
  kk_v (mf_weigh μ) (fun s1 =>
    mf_running_L8 8 0 (-1) s1)
def mf_firstWaiter_L8 (what : Int32) : Nat → Nat → Int32 → km_S → Int32 × km_S
  | 0, k, best, μ =>
    (best, μ)
  | n + 1, k, best, μ =>
    if (mI μ 4 k) = 2 then
      if (mI μ 8 k) = what then
        if best < 0 then
          mf_firstWaiter_L8 what n (k + 1) (nI k) μ
        else
          if (mI μ 22 best.toNatClampNeg) < (mI μ 22 k) then
            mf_firstWaiter_L8 what n (k + 1) (nI k) μ
          else
            if (mI μ 22 k) = (mI μ 22 best.toNatClampNeg) then
              if (mI μ 9 best.toNatClampNeg) ≤ (mI μ 9 k) then
                mf_firstWaiter_L8 what n (k + 1) best μ
              else
                mf_firstWaiter_L8 what n (k + 1) (nI k) μ
            else
              mf_firstWaiter_L8 what n (k + 1) best μ
      else
        mf_firstWaiter_L8 what n (k + 1) best μ
    else
      mf_firstWaiter_L8 what n (k + 1) best μ
def mf_firstWaiter (μ : km_S) (what : Int32) : Int32 × km_S :=
  kk_v (mf_weigh μ) (fun s1 =>
    mf_firstWaiter_L8 what 8 0 (-1) s1)
def mf_give (μ : km_S) (m1 : Int32) : km_S :=
  kk_b (mf_firstWaiter (sM μ 17 m1.toNatClampNeg (-1)) (10 + m1)) (fun r1 s1 =>
    if 0 ≤ r1 then
      if (mI (sM s1 17 m1.toNatClampNeg r1) 16 r1.toNatClampNeg) = 0 then
        kk_v (mf_ready (sM (sM s1 17 m1.toNatClampNeg r1) 11 r1.toNatClampNeg 0) r1) (fun s3 =>
          s3)
      else
        kk_v (mf_ready (sM s1 17 m1.toNatClampNeg r1) r1) (fun s2 =>
          s2)
    else
      s1)
def mf_retake (μ : km_S) (t : Int32) (r : Int32) : km_S :=
  if 0 ≤ (mI (sM μ 11 t.toNatClampNeg r) 17 (mI μ 12 t.toNatClampNeg).toNatClampNeg) then
    kk_v (mf_block (sM μ 11 t.toNatClampNeg r) t (10 + (mI μ 12 t.toNatClampNeg)) 0) (fun s1 =>
      sM s1 16 t.toNatClampNeg (vp_nar .boolean 1))
  else
    kk_v (mf_ready (sM (sM μ 11 t.toNatClampNeg r) 17 (mI μ 12 t.toNatClampNeg).toNatClampNeg t) t) (fun s2 =>
      s2)
def mf_spawn_L15 (base : Int32) (sliced : Int32) : Nat → Nat → km_S → Int32 × km_S
  | 0, k, μ =>
    ((-1), μ)
  | n + 1, k, μ =>
    if (mI μ 4 k) = 0 then
      kk_v (mf_ready (sM (sM (sM μ 5 k base) 15 k (vp_nar .boolean sliced)) 11 k 0) (nI k)) (fun s1 =>
        (nI k, s1))
    else
      mf_spawn_L15 base sliced n (k + 1)  μ
def mf_spawn (μ : km_S) (base : Int32) (sliced : Int32) : Int32 × km_S :=
  if base < 1 then
    ((-1), μ)
  else
    if base ≤ 31 then
      mf_spawn_L15 base sliced 8 0  μ
    else
      ((-1), μ)
def mf_priority (μ : km_S) (thread : Int32) (base : Int32) : Int32 × km_S :=
  if (mf_out thread 8) = 0 then
    if base < 1 then
      ((-1), μ)
    else
      if 31 < base then
        ((-1), μ)
      else
        if (mI μ 4 thread.toNatClampNeg) = 0 then
          ((-1), μ)
        else
          if (mI μ 4 thread.toNatClampNeg) = 3 then
            ((-1), μ)
          else
            if (mI μ 17 3) = thread then
              if base ≤ (mI μ 1 0) then
                if (mI (sM μ 5 thread.toNatClampNeg base) 4 thread.toNatClampNeg) = 1 then
                  kk_b (mf_newStamp (sM μ 5 thread.toNatClampNeg base)) (fun r2 s2 =>
                    (0, sM s2 6 thread.toNatClampNeg r2))
                else
                  (0, sM μ 5 thread.toNatClampNeg base)
              else
                ((-1), μ)
            else
              if (mI (sM μ 5 thread.toNatClampNeg base) 4 thread.toNatClampNeg) = 1 then
                kk_b (mf_newStamp (sM μ 5 thread.toNatClampNeg base)) (fun r1 s1 =>
                  (0, sM s1 6 thread.toNatClampNeg r1))
              else
                (0, sM μ 5 thread.toNatClampNeg base)
  else
    ((-1), μ)
def mf_pass (μ : km_S)  : Int32 × km_S :=
  kk_b (mf_running μ) (fun r1 s1 =>
    if 0 ≤ r1 then
      kk_v (mf_ready s1 r1) (fun s2 =>
        (0, s2))
    else
      ((-1), s1))
def mf_lock (μ : km_S) (m1 : Int32) : Int32 × km_S :=
  kk_b (mf_running μ) (fun r1 s1 =>
    if (mf_out m1 4) = 0 then
      if r1 < 0 then
        ((-1), s1)
      else
        if (mI s1 17 m1.toNatClampNeg) = r1 then
          ((-1), s1)
        else
          if m1 = 3 then
            if (mI s1 5 r1.toNatClampNeg) ≤ (mI s1 1 0) then
              if 0 ≤ (mI s1 17 m1.toNatClampNeg) then
                kk_v (mf_block s1 r1 (10 + m1) 0) (fun s3 =>
                  (1, s3))
              else
                (0, sM (sM s1 17 m1.toNatClampNeg r1) 11 r1.toNatClampNeg 0)
            else
              ((-1), s1)
          else
            if 0 ≤ (mI s1 17 m1.toNatClampNeg) then
              kk_v (mf_block s1 r1 (10 + m1) 0) (fun s2 =>
                (1, s2))
            else
              (0, sM (sM s1 17 m1.toNatClampNeg r1) 11 r1.toNatClampNeg 0)
    else
      ((-1), s1))
def mf_unlock (μ : km_S) (m1 : Int32) : Int32 × km_S :=
  kk_b (mf_running μ) (fun r1 s1 =>
    if (mf_out m1 4) = 0 then
      if r1 < 0 then
        ((-1), s1)
      else
        if (mI s1 17 m1.toNatClampNeg) = r1 then
          kk_v (mf_give s1 m1) (fun s2 =>
            (0, s2))
        else
          ((-1), s1)
    else
      ((-1), s1))
def mf_await (μ : km_S) (cc1 : Int32) (m1 : Int32) (n1 : Int32) : Int32 × km_S :=
  kk_b (mf_running μ) (fun r1 s1 =>
    if (mf_out cc1 2) = 0 then
      if (mf_out m1 4) = 0 then
        if (mf_out n1 1001) = 0 then
          if r1 < 0 then
            ((-1), s1)
          else
            if (mI s1 17 m1.toNatClampNeg) = r1 then
              if n1 = 0 then
                kk_v (mf_block s1 r1 (20 + cc1) 0) (fun s4 =>
                  kk_v (mf_give (sM s4 12 r1.toNatClampNeg m1) m1) (fun s5 =>
                    (1, s5)))
              else
                kk_v (mf_block s1 r1 (20 + cc1) ((mI s1 2 0) + n1)) (fun s2 =>
                  kk_v (mf_give (sM s2 12 r1.toNatClampNeg m1) m1) (fun s3 =>
                    (1, s3)))
            else
              ((-1), s1)
        else
          ((-1), s1)
      else
        ((-1), s1)
    else
      ((-1), s1))
def mf_signal_L16 (cc1 : Int32) (all : Int32) : Nat → Nat → Int32 → km_S → Int32 × km_S
  | 0, k, woken, μ =>
    (woken, μ)
  | n + 1, k, woken, μ =>
    kk_b (mf_firstWaiter μ (20 + cc1)) (fun r1 s1 =>
      if 0 ≤ r1 then
        kk_v (mf_retake s1 r1 0) (fun s2 =>
          mf_signal_L16 cc1 all n (k + 1) (woken + 1) s2)
      else
        (woken, s1))
def mf_signal (μ : km_S) (cc1 : Int32) (all : Int32) : Int32 × km_S :=
  if (mf_out cc1 2) = 0 then
    if all = 0 then
      kk_b (mf_firstWaiter μ (20 + cc1)) (fun r3 s3 =>
        if 0 ≤ r3 then
          kk_v (mf_retake s3 r3 0) (fun s4 =>
            (1, s4))
        else
          (0, s3))
    else
      mf_signal_L16 cc1 all 8 0 0 μ
  else
    ((-1), μ)
def mf_down (μ : km_S) (sem : Int32) (n1 : Int32) : Int32 × km_S :=
  kk_b (mf_running μ) (fun r1 s1 =>
    if (mf_out sem 2) = 0 then
      if (mf_out n1 1001) = 0 then
        if 0 ≤ r1 then
          if (mI s1 18 sem.toNatClampNeg) ≤ 0 then
            if n1 = 0 then
              kk_v (mf_block s1 r1 (30 + sem) 0) (fun s3 =>
                (1, s3))
            else
              kk_v (mf_block s1 r1 (30 + sem) ((mI s1 2 0) + n1)) (fun s2 =>
                (1, s2))
          else
            (0, sM (sM s1 18 sem.toNatClampNeg ((mI s1 18 sem.toNatClampNeg) - 1)) 11 r1.toNatClampNeg 0)
        else
          ((-1), s1)
      else
        ((-1), s1)
    else
      ((-1), s1))
def mf_post (μ : km_S) (sem : Int32) : Int32 × km_S :=
  if (mf_out sem 2) = 0 then
    kk_b (mf_firstWaiter μ (30 + sem)) (fun r1 s1 =>
      if r1 < 0 then
        if (mI s1 18 sem.toNatClampNeg) = 99 then
          ((-1), s1)
        else
          (0, sM s1 18 sem.toNatClampNeg ((mI s1 18 sem.toNatClampNeg) + 1))
      else
        kk_v (mf_ready (sM s1 11 r1.toNatClampNeg 0) r1) (fun s2 =>
          (0, s2)))
  else
    ((-1), μ)
def mf_comeIn (μ : km_S) (q : Int32) (rank : Int32) (value : Int32) : km_S :=
  if q = 0 then
    if (mI μ 19 0) = 0 then
      sM (sM (sM μ 20 0 rank) 21 0 value) 19 0 ((mI (sM (sM μ 20 0 rank) 21 0 value) 19 0) + 1)
    else
      if (mI μ 19 0) = 1 then
        if rank ≤ (mI μ 20 0) then
          sM (sM (sM μ 20 1 rank) 21 1 value) 19 0 ((mI (sM (sM μ 20 1 rank) 21 1 value) 19 0) + 1)
        else
          sM (sM (sM (sM (sM μ 20 1 (mI μ 20 0)) 21 1 (mI (sM μ 20 1 (mI μ 20 0)) 21 0)) 20 0 rank) 21 0 value) 19 0 ((mI (sM (sM (sM (sM μ 20 1 (mI μ 20 0)) 21 1 (mI (sM μ 20 1 (mI μ 20 0)) 21 0)) 20 0 rank) 21 0 value) 19 0) + 1)
      else
        if (mI μ 19 0) = 2 then
          if rank ≤ (mI μ 20 1) then
            sM (sM (sM μ 20 2 rank) 21 2 value) 19 0 ((mI (sM (sM μ 20 2 rank) 21 2 value) 19 0) + 1)
          else
            if rank ≤ (mI (sM (sM μ 20 2 (mI μ 20 1)) 21 2 (mI (sM μ 20 2 (mI μ 20 1)) 21 1)) 20 0) then
              sM (sM (sM (sM (sM μ 20 2 (mI μ 20 1)) 21 2 (mI (sM μ 20 2 (mI μ 20 1)) 21 1)) 20 1 rank) 21 1 value) 19 0 ((mI (sM (sM (sM (sM μ 20 2 (mI μ 20 1)) 21 2 (mI (sM μ 20 2 (mI μ 20 1)) 21 1)) 20 1 rank) 21 1 value) 19 0) + 1)
            else
              sM (sM (sM (sM (sM (sM (sM μ 20 2 (mI μ 20 1)) 21 2 (mI (sM μ 20 2 (mI μ 20 1)) 21 1)) 20 1 (mI (sM (sM μ 20 2 (mI μ 20 1)) 21 2 (mI (sM μ 20 2 (mI μ 20 1)) 21 1)) 20 0)) 21 1 (mI (sM (sM (sM μ 20 2 (mI μ 20 1)) 21 2 (mI (sM μ 20 2 (mI μ 20 1)) 21 1)) 20 1 (mI (sM (sM μ 20 2 (mI μ 20 1)) 21 2 (mI (sM μ 20 2 (mI μ 20 1)) 21 1)) 20 0)) 21 0)) 20 0 rank) 21 0 value) 19 0 ((mI (sM (sM (sM (sM (sM (sM μ 20 2 (mI μ 20 1)) 21 2 (mI (sM μ 20 2 (mI μ 20 1)) 21 1)) 20 1 (mI (sM (sM μ 20 2 (mI μ 20 1)) 21 2 (mI (sM μ 20 2 (mI μ 20 1)) 21 1)) 20 0)) 21 1 (mI (sM (sM (sM μ 20 2 (mI μ 20 1)) 21 2 (mI (sM μ 20 2 (mI μ 20 1)) 21 1)) 20 1 (mI (sM (sM μ 20 2 (mI μ 20 1)) 21 2 (mI (sM μ 20 2 (mI μ 20 1)) 21 1)) 20 0)) 21 0)) 20 0 rank) 21 0 value) 19 0) + 1)
        else
          if rank ≤ (mI μ 20 2) then
            sM (sM (sM μ 20 3 rank) 21 3 value) 19 0 ((mI (sM (sM μ 20 3 rank) 21 3 value) 19 0) + 1)
          else
            if rank ≤ (mI (sM (sM μ 20 3 (mI μ 20 2)) 21 3 (mI (sM μ 20 3 (mI μ 20 2)) 21 2)) 20 1) then
              sM (sM (sM (sM (sM μ 20 3 (mI μ 20 2)) 21 3 (mI (sM μ 20 3 (mI μ 20 2)) 21 2)) 20 2 rank) 21 2 value) 19 0 ((mI (sM (sM (sM (sM μ 20 3 (mI μ 20 2)) 21 3 (mI (sM μ 20 3 (mI μ 20 2)) 21 2)) 20 2 rank) 21 2 value) 19 0) + 1)
            else
              if rank ≤ (mI (sM (sM (sM (sM μ 20 3 (mI μ 20 2)) 21 3 (mI (sM μ 20 3 (mI μ 20 2)) 21 2)) 20 2 (mI (sM (sM μ 20 3 (mI μ 20 2)) 21 3 (mI (sM μ 20 3 (mI μ 20 2)) 21 2)) 20 1)) 21 2 (mI (sM (sM (sM μ 20 3 (mI μ 20 2)) 21 3 (mI (sM μ 20 3 (mI μ 20 2)) 21 2)) 20 2 (mI (sM (sM μ 20 3 (mI μ 20 2)) 21 3 (mI (sM μ 20 3 (mI μ 20 2)) 21 2)) 20 1)) 21 1)) 20 0) then
                sM (sM (sM (sM (sM (sM (sM μ 20 3 (mI μ 20 2)) 21 3 (mI (sM μ 20 3 (mI μ 20 2)) 21 2)) 20 2 (mI (sM (sM μ 20 3 (mI μ 20 2)) 21 3 (mI (sM μ 20 3 (mI μ 20 2)) 21 2)) 20 1)) 21 2 (mI (sM (sM (sM μ 20 3 (mI μ 20 2)) 21 3 (mI (sM μ 20 3 (mI μ 20 2)) 21 2)) 20 2 (mI (sM (sM μ 20 3 (mI μ 20 2)) 21 3 (mI (sM μ 20 3 (mI μ 20 2)) 21 2)) 20 1)) 21 1)) 20 1 rank) 21 1 value) 19 0 ((mI (sM (sM (sM (sM (sM (sM μ 20 3 (mI μ 20 2)) 21 3 (mI (sM μ 20 3 (mI μ 20 2)) 21 2)) 20 2 (mI (sM (sM μ 20 3 (mI μ 20 2)) 21 3 (mI (sM μ 20 3 (mI μ 20 2)) 21 2)) 20 1)) 21 2 (mI (sM (sM (sM μ 20 3 (mI μ 20 2)) 21 3 (mI (sM μ 20 3 (mI μ 20 2)) 21 2)) 20 2 (mI (sM (sM μ 20 3 (mI μ 20 2)) 21 3 (mI (sM μ 20 3 (mI μ 20 2)) 21 2)) 20 1)) 21 1)) 20 1 rank) 21 1 value) 19 0) + 1)
              else
                sM (sM (sM (sM (sM (sM (sM (sM (sM μ 20 3 (mI μ 20 2)) 21 3 (mI (sM μ 20 3 (mI μ 20 2)) 21 2)) 20 2 (mI (sM (sM μ 20 3 (mI μ 20 2)) 21 3 (mI (sM μ 20 3 (mI μ 20 2)) 21 2)) 20 1)) 21 2 (mI (sM (sM (sM μ 20 3 (mI μ 20 2)) 21 3 (mI (sM μ 20 3 (mI μ 20 2)) 21 2)) 20 2 (mI (sM (sM μ 20 3 (mI μ 20 2)) 21 3 (mI (sM μ 20 3 (mI μ 20 2)) 21 2)) 20 1)) 21 1)) 20 1 (mI (sM (sM (sM (sM μ 20 3 (mI μ 20 2)) 21 3 (mI (sM μ 20 3 (mI μ 20 2)) 21 2)) 20 2 (mI (sM (sM μ 20 3 (mI μ 20 2)) 21 3 (mI (sM μ 20 3 (mI μ 20 2)) 21 2)) 20 1)) 21 2 (mI (sM (sM (sM μ 20 3 (mI μ 20 2)) 21 3 (mI (sM μ 20 3 (mI μ 20 2)) 21 2)) 20 2 (mI (sM (sM μ 20 3 (mI μ 20 2)) 21 3 (mI (sM μ 20 3 (mI μ 20 2)) 21 2)) 20 1)) 21 1)) 20 0)) 21 1 (mI (sM (sM (sM (sM (sM μ 20 3 (mI μ 20 2)) 21 3 (mI (sM μ 20 3 (mI μ 20 2)) 21 2)) 20 2 (mI (sM (sM μ 20 3 (mI μ 20 2)) 21 3 (mI (sM μ 20 3 (mI μ 20 2)) 21 2)) 20 1)) 21 2 (mI (sM (sM (sM μ 20 3 (mI μ 20 2)) 21 3 (mI (sM μ 20 3 (mI μ 20 2)) 21 2)) 20 2 (mI (sM (sM μ 20 3 (mI μ 20 2)) 21 3 (mI (sM μ 20 3 (mI μ 20 2)) 21 2)) 20 1)) 21 1)) 20 1 (mI (sM (sM (sM (sM μ 20 3 (mI μ 20 2)) 21 3 (mI (sM μ 20 3 (mI μ 20 2)) 21 2)) 20 2 (mI (sM (sM μ 20 3 (mI μ 20 2)) 21 3 (mI (sM μ 20 3 (mI μ 20 2)) 21 2)) 20 1)) 21 2 (mI (sM (sM (sM μ 20 3 (mI μ 20 2)) 21 3 (mI (sM μ 20 3 (mI μ 20 2)) 21 2)) 20 2 (mI (sM (sM μ 20 3 (mI μ 20 2)) 21 3 (mI (sM μ 20 3 (mI μ 20 2)) 21 2)) 20 1)) 21 1)) 20 0)) 21 0)) 20 0 rank) 21 0 value) 19 0 ((mI (sM (sM (sM (sM (sM (sM (sM (sM μ 20 3 (mI μ 20 2)) 21 3 (mI (sM μ 20 3 (mI μ 20 2)) 21 2)) 20 2 (mI (sM (sM μ 20 3 (mI μ 20 2)) 21 3 (mI (sM μ 20 3 (mI μ 20 2)) 21 2)) 20 1)) 21 2 (mI (sM (sM (sM μ 20 3 (mI μ 20 2)) 21 3 (mI (sM μ 20 3 (mI μ 20 2)) 21 2)) 20 2 (mI (sM (sM μ 20 3 (mI μ 20 2)) 21 3 (mI (sM μ 20 3 (mI μ 20 2)) 21 2)) 20 1)) 21 1)) 20 1 (mI (sM (sM (sM (sM μ 20 3 (mI μ 20 2)) 21 3 (mI (sM μ 20 3 (mI μ 20 2)) 21 2)) 20 2 (mI (sM (sM μ 20 3 (mI μ 20 2)) 21 3 (mI (sM μ 20 3 (mI μ 20 2)) 21 2)) 20 1)) 21 2 (mI (sM (sM (sM μ 20 3 (mI μ 20 2)) 21 3 (mI (sM μ 20 3 (mI μ 20 2)) 21 2)) 20 2 (mI (sM (sM μ 20 3 (mI μ 20 2)) 21 3 (mI (sM μ 20 3 (mI μ 20 2)) 21 2)) 20 1)) 21 1)) 20 0)) 21 1 (mI (sM (sM (sM (sM (sM μ 20 3 (mI μ 20 2)) 21 3 (mI (sM μ 20 3 (mI μ 20 2)) 21 2)) 20 2 (mI (sM (sM μ 20 3 (mI μ 20 2)) 21 3 (mI (sM μ 20 3 (mI μ 20 2)) 21 2)) 20 1)) 21 2 (mI (sM (sM (sM μ 20 3 (mI μ 20 2)) 21 3 (mI (sM μ 20 3 (mI μ 20 2)) 21 2)) 20 2 (mI (sM (sM μ 20 3 (mI μ 20 2)) 21 3 (mI (sM μ 20 3 (mI μ 20 2)) 21 2)) 20 1)) 21 1)) 20 1 (mI (sM (sM (sM (sM μ 20 3 (mI μ 20 2)) 21 3 (mI (sM μ 20 3 (mI μ 20 2)) 21 2)) 20 2 (mI (sM (sM μ 20 3 (mI μ 20 2)) 21 3 (mI (sM μ 20 3 (mI μ 20 2)) 21 2)) 20 1)) 21 2 (mI (sM (sM (sM μ 20 3 (mI μ 20 2)) 21 3 (mI (sM μ 20 3 (mI μ 20 2)) 21 2)) 20 2 (mI (sM (sM μ 20 3 (mI μ 20 2)) 21 3 (mI (sM μ 20 3 (mI μ 20 2)) 21 2)) 20 1)) 21 1)) 20 0)) 21 0)) 20 0 rank) 21 0 value) 19 0) + 1)
  else
    if (mI μ 19 1) = 0 then
      sM (sM (sM μ 20 4 rank) 21 4 value) 19 1 ((mI (sM (sM μ 20 4 rank) 21 4 value) 19 1) + 1)
    else
      if (mI μ 19 1) = 1 then
        if rank ≤ (mI μ 20 4) then
          sM (sM (sM μ 20 5 rank) 21 5 value) 19 1 ((mI (sM (sM μ 20 5 rank) 21 5 value) 19 1) + 1)
        else
          sM (sM (sM (sM (sM μ 20 5 (mI μ 20 4)) 21 5 (mI (sM μ 20 5 (mI μ 20 4)) 21 4)) 20 4 rank) 21 4 value) 19 1 ((mI (sM (sM (sM (sM μ 20 5 (mI μ 20 4)) 21 5 (mI (sM μ 20 5 (mI μ 20 4)) 21 4)) 20 4 rank) 21 4 value) 19 1) + 1)
      else
        if (mI μ 19 1) = 2 then
          if rank ≤ (mI μ 20 5) then
            sM (sM (sM μ 20 6 rank) 21 6 value) 19 1 ((mI (sM (sM μ 20 6 rank) 21 6 value) 19 1) + 1)
          else
            if rank ≤ (mI (sM (sM μ 20 6 (mI μ 20 5)) 21 6 (mI (sM μ 20 6 (mI μ 20 5)) 21 5)) 20 4) then
              sM (sM (sM (sM (sM μ 20 6 (mI μ 20 5)) 21 6 (mI (sM μ 20 6 (mI μ 20 5)) 21 5)) 20 5 rank) 21 5 value) 19 1 ((mI (sM (sM (sM (sM μ 20 6 (mI μ 20 5)) 21 6 (mI (sM μ 20 6 (mI μ 20 5)) 21 5)) 20 5 rank) 21 5 value) 19 1) + 1)
            else
              sM (sM (sM (sM (sM (sM (sM μ 20 6 (mI μ 20 5)) 21 6 (mI (sM μ 20 6 (mI μ 20 5)) 21 5)) 20 5 (mI (sM (sM μ 20 6 (mI μ 20 5)) 21 6 (mI (sM μ 20 6 (mI μ 20 5)) 21 5)) 20 4)) 21 5 (mI (sM (sM (sM μ 20 6 (mI μ 20 5)) 21 6 (mI (sM μ 20 6 (mI μ 20 5)) 21 5)) 20 5 (mI (sM (sM μ 20 6 (mI μ 20 5)) 21 6 (mI (sM μ 20 6 (mI μ 20 5)) 21 5)) 20 4)) 21 4)) 20 4 rank) 21 4 value) 19 1 ((mI (sM (sM (sM (sM (sM (sM μ 20 6 (mI μ 20 5)) 21 6 (mI (sM μ 20 6 (mI μ 20 5)) 21 5)) 20 5 (mI (sM (sM μ 20 6 (mI μ 20 5)) 21 6 (mI (sM μ 20 6 (mI μ 20 5)) 21 5)) 20 4)) 21 5 (mI (sM (sM (sM μ 20 6 (mI μ 20 5)) 21 6 (mI (sM μ 20 6 (mI μ 20 5)) 21 5)) 20 5 (mI (sM (sM μ 20 6 (mI μ 20 5)) 21 6 (mI (sM μ 20 6 (mI μ 20 5)) 21 5)) 20 4)) 21 4)) 20 4 rank) 21 4 value) 19 1) + 1)
        else
          if rank ≤ (mI μ 20 6) then
            sM (sM (sM μ 20 7 rank) 21 7 value) 19 1 ((mI (sM (sM μ 20 7 rank) 21 7 value) 19 1) + 1)
          else
            if rank ≤ (mI (sM (sM μ 20 7 (mI μ 20 6)) 21 7 (mI (sM μ 20 7 (mI μ 20 6)) 21 6)) 20 5) then
              sM (sM (sM (sM (sM μ 20 7 (mI μ 20 6)) 21 7 (mI (sM μ 20 7 (mI μ 20 6)) 21 6)) 20 6 rank) 21 6 value) 19 1 ((mI (sM (sM (sM (sM μ 20 7 (mI μ 20 6)) 21 7 (mI (sM μ 20 7 (mI μ 20 6)) 21 6)) 20 6 rank) 21 6 value) 19 1) + 1)
            else
              if rank ≤ (mI (sM (sM (sM (sM μ 20 7 (mI μ 20 6)) 21 7 (mI (sM μ 20 7 (mI μ 20 6)) 21 6)) 20 6 (mI (sM (sM μ 20 7 (mI μ 20 6)) 21 7 (mI (sM μ 20 7 (mI μ 20 6)) 21 6)) 20 5)) 21 6 (mI (sM (sM (sM μ 20 7 (mI μ 20 6)) 21 7 (mI (sM μ 20 7 (mI μ 20 6)) 21 6)) 20 6 (mI (sM (sM μ 20 7 (mI μ 20 6)) 21 7 (mI (sM μ 20 7 (mI μ 20 6)) 21 6)) 20 5)) 21 5)) 20 4) then
                sM (sM (sM (sM (sM (sM (sM μ 20 7 (mI μ 20 6)) 21 7 (mI (sM μ 20 7 (mI μ 20 6)) 21 6)) 20 6 (mI (sM (sM μ 20 7 (mI μ 20 6)) 21 7 (mI (sM μ 20 7 (mI μ 20 6)) 21 6)) 20 5)) 21 6 (mI (sM (sM (sM μ 20 7 (mI μ 20 6)) 21 7 (mI (sM μ 20 7 (mI μ 20 6)) 21 6)) 20 6 (mI (sM (sM μ 20 7 (mI μ 20 6)) 21 7 (mI (sM μ 20 7 (mI μ 20 6)) 21 6)) 20 5)) 21 5)) 20 5 rank) 21 5 value) 19 1 ((mI (sM (sM (sM (sM (sM (sM μ 20 7 (mI μ 20 6)) 21 7 (mI (sM μ 20 7 (mI μ 20 6)) 21 6)) 20 6 (mI (sM (sM μ 20 7 (mI μ 20 6)) 21 7 (mI (sM μ 20 7 (mI μ 20 6)) 21 6)) 20 5)) 21 6 (mI (sM (sM (sM μ 20 7 (mI μ 20 6)) 21 7 (mI (sM μ 20 7 (mI μ 20 6)) 21 6)) 20 6 (mI (sM (sM μ 20 7 (mI μ 20 6)) 21 7 (mI (sM μ 20 7 (mI μ 20 6)) 21 6)) 20 5)) 21 5)) 20 5 rank) 21 5 value) 19 1) + 1)
              else
                sM (sM (sM (sM (sM (sM (sM (sM (sM μ 20 7 (mI μ 20 6)) 21 7 (mI (sM μ 20 7 (mI μ 20 6)) 21 6)) 20 6 (mI (sM (sM μ 20 7 (mI μ 20 6)) 21 7 (mI (sM μ 20 7 (mI μ 20 6)) 21 6)) 20 5)) 21 6 (mI (sM (sM (sM μ 20 7 (mI μ 20 6)) 21 7 (mI (sM μ 20 7 (mI μ 20 6)) 21 6)) 20 6 (mI (sM (sM μ 20 7 (mI μ 20 6)) 21 7 (mI (sM μ 20 7 (mI μ 20 6)) 21 6)) 20 5)) 21 5)) 20 5 (mI (sM (sM (sM (sM μ 20 7 (mI μ 20 6)) 21 7 (mI (sM μ 20 7 (mI μ 20 6)) 21 6)) 20 6 (mI (sM (sM μ 20 7 (mI μ 20 6)) 21 7 (mI (sM μ 20 7 (mI μ 20 6)) 21 6)) 20 5)) 21 6 (mI (sM (sM (sM μ 20 7 (mI μ 20 6)) 21 7 (mI (sM μ 20 7 (mI μ 20 6)) 21 6)) 20 6 (mI (sM (sM μ 20 7 (mI μ 20 6)) 21 7 (mI (sM μ 20 7 (mI μ 20 6)) 21 6)) 20 5)) 21 5)) 20 4)) 21 5 (mI (sM (sM (sM (sM (sM μ 20 7 (mI μ 20 6)) 21 7 (mI (sM μ 20 7 (mI μ 20 6)) 21 6)) 20 6 (mI (sM (sM μ 20 7 (mI μ 20 6)) 21 7 (mI (sM μ 20 7 (mI μ 20 6)) 21 6)) 20 5)) 21 6 (mI (sM (sM (sM μ 20 7 (mI μ 20 6)) 21 7 (mI (sM μ 20 7 (mI μ 20 6)) 21 6)) 20 6 (mI (sM (sM μ 20 7 (mI μ 20 6)) 21 7 (mI (sM μ 20 7 (mI μ 20 6)) 21 6)) 20 5)) 21 5)) 20 5 (mI (sM (sM (sM (sM μ 20 7 (mI μ 20 6)) 21 7 (mI (sM μ 20 7 (mI μ 20 6)) 21 6)) 20 6 (mI (sM (sM μ 20 7 (mI μ 20 6)) 21 7 (mI (sM μ 20 7 (mI μ 20 6)) 21 6)) 20 5)) 21 6 (mI (sM (sM (sM μ 20 7 (mI μ 20 6)) 21 7 (mI (sM μ 20 7 (mI μ 20 6)) 21 6)) 20 6 (mI (sM (sM μ 20 7 (mI μ 20 6)) 21 7 (mI (sM μ 20 7 (mI μ 20 6)) 21 6)) 20 5)) 21 5)) 20 4)) 21 4)) 20 4 rank) 21 4 value) 19 1 ((mI (sM (sM (sM (sM (sM (sM (sM (sM μ 20 7 (mI μ 20 6)) 21 7 (mI (sM μ 20 7 (mI μ 20 6)) 21 6)) 20 6 (mI (sM (sM μ 20 7 (mI μ 20 6)) 21 7 (mI (sM μ 20 7 (mI μ 20 6)) 21 6)) 20 5)) 21 6 (mI (sM (sM (sM μ 20 7 (mI μ 20 6)) 21 7 (mI (sM μ 20 7 (mI μ 20 6)) 21 6)) 20 6 (mI (sM (sM μ 20 7 (mI μ 20 6)) 21 7 (mI (sM μ 20 7 (mI μ 20 6)) 21 6)) 20 5)) 21 5)) 20 5 (mI (sM (sM (sM (sM μ 20 7 (mI μ 20 6)) 21 7 (mI (sM μ 20 7 (mI μ 20 6)) 21 6)) 20 6 (mI (sM (sM μ 20 7 (mI μ 20 6)) 21 7 (mI (sM μ 20 7 (mI μ 20 6)) 21 6)) 20 5)) 21 6 (mI (sM (sM (sM μ 20 7 (mI μ 20 6)) 21 7 (mI (sM μ 20 7 (mI μ 20 6)) 21 6)) 20 6 (mI (sM (sM μ 20 7 (mI μ 20 6)) 21 7 (mI (sM μ 20 7 (mI μ 20 6)) 21 6)) 20 5)) 21 5)) 20 4)) 21 5 (mI (sM (sM (sM (sM (sM μ 20 7 (mI μ 20 6)) 21 7 (mI (sM μ 20 7 (mI μ 20 6)) 21 6)) 20 6 (mI (sM (sM μ 20 7 (mI μ 20 6)) 21 7 (mI (sM μ 20 7 (mI μ 20 6)) 21 6)) 20 5)) 21 6 (mI (sM (sM (sM μ 20 7 (mI μ 20 6)) 21 7 (mI (sM μ 20 7 (mI μ 20 6)) 21 6)) 20 6 (mI (sM (sM μ 20 7 (mI μ 20 6)) 21 7 (mI (sM μ 20 7 (mI μ 20 6)) 21 6)) 20 5)) 21 5)) 20 5 (mI (sM (sM (sM (sM μ 20 7 (mI μ 20 6)) 21 7 (mI (sM μ 20 7 (mI μ 20 6)) 21 6)) 20 6 (mI (sM (sM μ 20 7 (mI μ 20 6)) 21 7 (mI (sM μ 20 7 (mI μ 20 6)) 21 6)) 20 5)) 21 6 (mI (sM (sM (sM μ 20 7 (mI μ 20 6)) 21 7 (mI (sM μ 20 7 (mI μ 20 6)) 21 6)) 20 6 (mI (sM (sM μ 20 7 (mI μ 20 6)) 21 7 (mI (sM μ 20 7 (mI μ 20 6)) 21 6)) 20 5)) 21 5)) 20 4)) 21 4)) 20 4 rank) 21 4 value) 19 1) + 1)
def mf_send (μ : km_S) (q : Int32) (rank : Int32) (value : Int32) : Int32 × km_S :=
  kk_b (mf_running μ) (fun r1 s1 =>
    if (mf_out q 2) = 0 then
      if (mf_out rank 10) = 0 then
        if 0 ≤ r1 then
          if (mI s1 19 q.toNatClampNeg) = 4 then
            kk_v (mf_block s1 r1 (40 + q) 0) (fun s5 =>
              (1, sM (sM s5 13 r1.toNatClampNeg rank) 14 r1.toNatClampNeg value))
          else
            kk_b (mf_firstWaiter (sM s1 11 r1.toNatClampNeg 0) (50 + q)) (fun r2 s2 =>
              if 0 ≤ r2 then
                kk_v (mf_ready (sM s2 11 r2.toNatClampNeg value) r2) (fun s3 =>
                  (0, s3))
              else
                kk_v (mf_comeIn s2 q rank value) (fun s4 =>
                  (0, s4)))
        else
          ((-1), s1)
      else
        ((-1), s1)
    else
      ((-1), s1))
def mf_receive (μ : km_S) (q : Int32) : Int32 × km_S :=
  kk_b (mf_running μ) (fun r1 s1 =>
    if (mf_out q 2) = 0 then
      if 0 ≤ r1 then
        if q = 0 then
          if (mI s1 19 0) = 0 then
            kk_v (mf_block s1 r1 50 0) (fun s5 =>
              (1, s5))
          else
            kk_b (mf_firstWaiter (sM (sM (sM (sM (sM (sM (sM (sM s1 11 r1.toNatClampNeg (mI s1 21 0)) 20 0 (mI (sM s1 11 r1.toNatClampNeg (mI s1 21 0)) 20 1)) 21 0 (mI (sM (sM s1 11 r1.toNatClampNeg (mI s1 21 0)) 20 0 (mI (sM s1 11 r1.toNatClampNeg (mI s1 21 0)) 20 1)) 21 1)) 20 1 (mI (sM (sM (sM s1 11 r1.toNatClampNeg (mI s1 21 0)) 20 0 (mI (sM s1 11 r1.toNatClampNeg (mI s1 21 0)) 20 1)) 21 0 (mI (sM (sM s1 11 r1.toNatClampNeg (mI s1 21 0)) 20 0 (mI (sM s1 11 r1.toNatClampNeg (mI s1 21 0)) 20 1)) 21 1)) 20 2)) 21 1 (mI (sM (sM (sM (sM s1 11 r1.toNatClampNeg (mI s1 21 0)) 20 0 (mI (sM s1 11 r1.toNatClampNeg (mI s1 21 0)) 20 1)) 21 0 (mI (sM (sM s1 11 r1.toNatClampNeg (mI s1 21 0)) 20 0 (mI (sM s1 11 r1.toNatClampNeg (mI s1 21 0)) 20 1)) 21 1)) 20 1 (mI (sM (sM (sM s1 11 r1.toNatClampNeg (mI s1 21 0)) 20 0 (mI (sM s1 11 r1.toNatClampNeg (mI s1 21 0)) 20 1)) 21 0 (mI (sM (sM s1 11 r1.toNatClampNeg (mI s1 21 0)) 20 0 (mI (sM s1 11 r1.toNatClampNeg (mI s1 21 0)) 20 1)) 21 1)) 20 2)) 21 2)) 20 2 (mI (sM (sM (sM (sM (sM s1 11 r1.toNatClampNeg (mI s1 21 0)) 20 0 (mI (sM s1 11 r1.toNatClampNeg (mI s1 21 0)) 20 1)) 21 0 (mI (sM (sM s1 11 r1.toNatClampNeg (mI s1 21 0)) 20 0 (mI (sM s1 11 r1.toNatClampNeg (mI s1 21 0)) 20 1)) 21 1)) 20 1 (mI (sM (sM (sM s1 11 r1.toNatClampNeg (mI s1 21 0)) 20 0 (mI (sM s1 11 r1.toNatClampNeg (mI s1 21 0)) 20 1)) 21 0 (mI (sM (sM s1 11 r1.toNatClampNeg (mI s1 21 0)) 20 0 (mI (sM s1 11 r1.toNatClampNeg (mI s1 21 0)) 20 1)) 21 1)) 20 2)) 21 1 (mI (sM (sM (sM (sM s1 11 r1.toNatClampNeg (mI s1 21 0)) 20 0 (mI (sM s1 11 r1.toNatClampNeg (mI s1 21 0)) 20 1)) 21 0 (mI (sM (sM s1 11 r1.toNatClampNeg (mI s1 21 0)) 20 0 (mI (sM s1 11 r1.toNatClampNeg (mI s1 21 0)) 20 1)) 21 1)) 20 1 (mI (sM (sM (sM s1 11 r1.toNatClampNeg (mI s1 21 0)) 20 0 (mI (sM s1 11 r1.toNatClampNeg (mI s1 21 0)) 20 1)) 21 0 (mI (sM (sM s1 11 r1.toNatClampNeg (mI s1 21 0)) 20 0 (mI (sM s1 11 r1.toNatClampNeg (mI s1 21 0)) 20 1)) 21 1)) 20 2)) 21 2)) 20 3)) 21 2 (mI (sM (sM (sM (sM (sM (sM s1 11 r1.toNatClampNeg (mI s1 21 0)) 20 0 (mI (sM s1 11 r1.toNatClampNeg (mI s1 21 0)) 20 1)) 21 0 (mI (sM (sM s1 11 r1.toNatClampNeg (mI s1 21 0)) 20 0 (mI (sM s1 11 r1.toNatClampNeg (mI s1 21 0)) 20 1)) 21 1)) 20 1 (mI (sM (sM (sM s1 11 r1.toNatClampNeg (mI s1 21 0)) 20 0 (mI (sM s1 11 r1.toNatClampNeg (mI s1 21 0)) 20 1)) 21 0 (mI (sM (sM s1 11 r1.toNatClampNeg (mI s1 21 0)) 20 0 (mI (sM s1 11 r1.toNatClampNeg (mI s1 21 0)) 20 1)) 21 1)) 20 2)) 21 1 (mI (sM (sM (sM (sM s1 11 r1.toNatClampNeg (mI s1 21 0)) 20 0 (mI (sM s1 11 r1.toNatClampNeg (mI s1 21 0)) 20 1)) 21 0 (mI (sM (sM s1 11 r1.toNatClampNeg (mI s1 21 0)) 20 0 (mI (sM s1 11 r1.toNatClampNeg (mI s1 21 0)) 20 1)) 21 1)) 20 1 (mI (sM (sM (sM s1 11 r1.toNatClampNeg (mI s1 21 0)) 20 0 (mI (sM s1 11 r1.toNatClampNeg (mI s1 21 0)) 20 1)) 21 0 (mI (sM (sM s1 11 r1.toNatClampNeg (mI s1 21 0)) 20 0 (mI (sM s1 11 r1.toNatClampNeg (mI s1 21 0)) 20 1)) 21 1)) 20 2)) 21 2)) 20 2 (mI (sM (sM (sM (sM (sM s1 11 r1.toNatClampNeg (mI s1 21 0)) 20 0 (mI (sM s1 11 r1.toNatClampNeg (mI s1 21 0)) 20 1)) 21 0 (mI (sM (sM s1 11 r1.toNatClampNeg (mI s1 21 0)) 20 0 (mI (sM s1 11 r1.toNatClampNeg (mI s1 21 0)) 20 1)) 21 1)) 20 1 (mI (sM (sM (sM s1 11 r1.toNatClampNeg (mI s1 21 0)) 20 0 (mI (sM s1 11 r1.toNatClampNeg (mI s1 21 0)) 20 1)) 21 0 (mI (sM (sM s1 11 r1.toNatClampNeg (mI s1 21 0)) 20 0 (mI (sM s1 11 r1.toNatClampNeg (mI s1 21 0)) 20 1)) 21 1)) 20 2)) 21 1 (mI (sM (sM (sM (sM s1 11 r1.toNatClampNeg (mI s1 21 0)) 20 0 (mI (sM s1 11 r1.toNatClampNeg (mI s1 21 0)) 20 1)) 21 0 (mI (sM (sM s1 11 r1.toNatClampNeg (mI s1 21 0)) 20 0 (mI (sM s1 11 r1.toNatClampNeg (mI s1 21 0)) 20 1)) 21 1)) 20 1 (mI (sM (sM (sM s1 11 r1.toNatClampNeg (mI s1 21 0)) 20 0 (mI (sM s1 11 r1.toNatClampNeg (mI s1 21 0)) 20 1)) 21 0 (mI (sM (sM s1 11 r1.toNatClampNeg (mI s1 21 0)) 20 0 (mI (sM s1 11 r1.toNatClampNeg (mI s1 21 0)) 20 1)) 21 1)) 20 2)) 21 2)) 20 3)) 21 3)) 19 0 ((mI (sM (sM (sM (sM (sM (sM (sM s1 11 r1.toNatClampNeg (mI s1 21 0)) 20 0 (mI (sM s1 11 r1.toNatClampNeg (mI s1 21 0)) 20 1)) 21 0 (mI (sM (sM s1 11 r1.toNatClampNeg (mI s1 21 0)) 20 0 (mI (sM s1 11 r1.toNatClampNeg (mI s1 21 0)) 20 1)) 21 1)) 20 1 (mI (sM (sM (sM s1 11 r1.toNatClampNeg (mI s1 21 0)) 20 0 (mI (sM s1 11 r1.toNatClampNeg (mI s1 21 0)) 20 1)) 21 0 (mI (sM (sM s1 11 r1.toNatClampNeg (mI s1 21 0)) 20 0 (mI (sM s1 11 r1.toNatClampNeg (mI s1 21 0)) 20 1)) 21 1)) 20 2)) 21 1 (mI (sM (sM (sM (sM s1 11 r1.toNatClampNeg (mI s1 21 0)) 20 0 (mI (sM s1 11 r1.toNatClampNeg (mI s1 21 0)) 20 1)) 21 0 (mI (sM (sM s1 11 r1.toNatClampNeg (mI s1 21 0)) 20 0 (mI (sM s1 11 r1.toNatClampNeg (mI s1 21 0)) 20 1)) 21 1)) 20 1 (mI (sM (sM (sM s1 11 r1.toNatClampNeg (mI s1 21 0)) 20 0 (mI (sM s1 11 r1.toNatClampNeg (mI s1 21 0)) 20 1)) 21 0 (mI (sM (sM s1 11 r1.toNatClampNeg (mI s1 21 0)) 20 0 (mI (sM s1 11 r1.toNatClampNeg (mI s1 21 0)) 20 1)) 21 1)) 20 2)) 21 2)) 20 2 (mI (sM (sM (sM (sM (sM s1 11 r1.toNatClampNeg (mI s1 21 0)) 20 0 (mI (sM s1 11 r1.toNatClampNeg (mI s1 21 0)) 20 1)) 21 0 (mI (sM (sM s1 11 r1.toNatClampNeg (mI s1 21 0)) 20 0 (mI (sM s1 11 r1.toNatClampNeg (mI s1 21 0)) 20 1)) 21 1)) 20 1 (mI (sM (sM (sM s1 11 r1.toNatClampNeg (mI s1 21 0)) 20 0 (mI (sM s1 11 r1.toNatClampNeg (mI s1 21 0)) 20 1)) 21 0 (mI (sM (sM s1 11 r1.toNatClampNeg (mI s1 21 0)) 20 0 (mI (sM s1 11 r1.toNatClampNeg (mI s1 21 0)) 20 1)) 21 1)) 20 2)) 21 1 (mI (sM (sM (sM (sM s1 11 r1.toNatClampNeg (mI s1 21 0)) 20 0 (mI (sM s1 11 r1.toNatClampNeg (mI s1 21 0)) 20 1)) 21 0 (mI (sM (sM s1 11 r1.toNatClampNeg (mI s1 21 0)) 20 0 (mI (sM s1 11 r1.toNatClampNeg (mI s1 21 0)) 20 1)) 21 1)) 20 1 (mI (sM (sM (sM s1 11 r1.toNatClampNeg (mI s1 21 0)) 20 0 (mI (sM s1 11 r1.toNatClampNeg (mI s1 21 0)) 20 1)) 21 0 (mI (sM (sM s1 11 r1.toNatClampNeg (mI s1 21 0)) 20 0 (mI (sM s1 11 r1.toNatClampNeg (mI s1 21 0)) 20 1)) 21 1)) 20 2)) 21 2)) 20 3)) 21 2 (mI (sM (sM (sM (sM (sM (sM s1 11 r1.toNatClampNeg (mI s1 21 0)) 20 0 (mI (sM s1 11 r1.toNatClampNeg (mI s1 21 0)) 20 1)) 21 0 (mI (sM (sM s1 11 r1.toNatClampNeg (mI s1 21 0)) 20 0 (mI (sM s1 11 r1.toNatClampNeg (mI s1 21 0)) 20 1)) 21 1)) 20 1 (mI (sM (sM (sM s1 11 r1.toNatClampNeg (mI s1 21 0)) 20 0 (mI (sM s1 11 r1.toNatClampNeg (mI s1 21 0)) 20 1)) 21 0 (mI (sM (sM s1 11 r1.toNatClampNeg (mI s1 21 0)) 20 0 (mI (sM s1 11 r1.toNatClampNeg (mI s1 21 0)) 20 1)) 21 1)) 20 2)) 21 1 (mI (sM (sM (sM (sM s1 11 r1.toNatClampNeg (mI s1 21 0)) 20 0 (mI (sM s1 11 r1.toNatClampNeg (mI s1 21 0)) 20 1)) 21 0 (mI (sM (sM s1 11 r1.toNatClampNeg (mI s1 21 0)) 20 0 (mI (sM s1 11 r1.toNatClampNeg (mI s1 21 0)) 20 1)) 21 1)) 20 1 (mI (sM (sM (sM s1 11 r1.toNatClampNeg (mI s1 21 0)) 20 0 (mI (sM s1 11 r1.toNatClampNeg (mI s1 21 0)) 20 1)) 21 0 (mI (sM (sM s1 11 r1.toNatClampNeg (mI s1 21 0)) 20 0 (mI (sM s1 11 r1.toNatClampNeg (mI s1 21 0)) 20 1)) 21 1)) 20 2)) 21 2)) 20 2 (mI (sM (sM (sM (sM (sM s1 11 r1.toNatClampNeg (mI s1 21 0)) 20 0 (mI (sM s1 11 r1.toNatClampNeg (mI s1 21 0)) 20 1)) 21 0 (mI (sM (sM s1 11 r1.toNatClampNeg (mI s1 21 0)) 20 0 (mI (sM s1 11 r1.toNatClampNeg (mI s1 21 0)) 20 1)) 21 1)) 20 1 (mI (sM (sM (sM s1 11 r1.toNatClampNeg (mI s1 21 0)) 20 0 (mI (sM s1 11 r1.toNatClampNeg (mI s1 21 0)) 20 1)) 21 0 (mI (sM (sM s1 11 r1.toNatClampNeg (mI s1 21 0)) 20 0 (mI (sM s1 11 r1.toNatClampNeg (mI s1 21 0)) 20 1)) 21 1)) 20 2)) 21 1 (mI (sM (sM (sM (sM s1 11 r1.toNatClampNeg (mI s1 21 0)) 20 0 (mI (sM s1 11 r1.toNatClampNeg (mI s1 21 0)) 20 1)) 21 0 (mI (sM (sM s1 11 r1.toNatClampNeg (mI s1 21 0)) 20 0 (mI (sM s1 11 r1.toNatClampNeg (mI s1 21 0)) 20 1)) 21 1)) 20 1 (mI (sM (sM (sM s1 11 r1.toNatClampNeg (mI s1 21 0)) 20 0 (mI (sM s1 11 r1.toNatClampNeg (mI s1 21 0)) 20 1)) 21 0 (mI (sM (sM s1 11 r1.toNatClampNeg (mI s1 21 0)) 20 0 (mI (sM s1 11 r1.toNatClampNeg (mI s1 21 0)) 20 1)) 21 1)) 20 2)) 21 2)) 20 3)) 21 3)) 19 0) - 1)) 40) (fun r2 s2 =>
              if 0 ≤ r2 then
                kk_v (mf_comeIn s2 0 (mI s2 13 r2.toNatClampNeg) (mI s2 14 r2.toNatClampNeg)) (fun s3 =>
                  kk_v (mf_ready (sM s3 11 r2.toNatClampNeg 0) r2) (fun s4 =>
                    (0, s4)))
              else
                (0, s2))
        else
          if (mI s1 19 1) = 0 then
            kk_v (mf_block s1 r1 51 0) (fun s9 =>
              (1, s9))
          else
            kk_b (mf_firstWaiter (sM (sM (sM (sM (sM (sM (sM (sM s1 11 r1.toNatClampNeg (mI s1 21 4)) 20 4 (mI (sM s1 11 r1.toNatClampNeg (mI s1 21 4)) 20 5)) 21 4 (mI (sM (sM s1 11 r1.toNatClampNeg (mI s1 21 4)) 20 4 (mI (sM s1 11 r1.toNatClampNeg (mI s1 21 4)) 20 5)) 21 5)) 20 5 (mI (sM (sM (sM s1 11 r1.toNatClampNeg (mI s1 21 4)) 20 4 (mI (sM s1 11 r1.toNatClampNeg (mI s1 21 4)) 20 5)) 21 4 (mI (sM (sM s1 11 r1.toNatClampNeg (mI s1 21 4)) 20 4 (mI (sM s1 11 r1.toNatClampNeg (mI s1 21 4)) 20 5)) 21 5)) 20 6)) 21 5 (mI (sM (sM (sM (sM s1 11 r1.toNatClampNeg (mI s1 21 4)) 20 4 (mI (sM s1 11 r1.toNatClampNeg (mI s1 21 4)) 20 5)) 21 4 (mI (sM (sM s1 11 r1.toNatClampNeg (mI s1 21 4)) 20 4 (mI (sM s1 11 r1.toNatClampNeg (mI s1 21 4)) 20 5)) 21 5)) 20 5 (mI (sM (sM (sM s1 11 r1.toNatClampNeg (mI s1 21 4)) 20 4 (mI (sM s1 11 r1.toNatClampNeg (mI s1 21 4)) 20 5)) 21 4 (mI (sM (sM s1 11 r1.toNatClampNeg (mI s1 21 4)) 20 4 (mI (sM s1 11 r1.toNatClampNeg (mI s1 21 4)) 20 5)) 21 5)) 20 6)) 21 6)) 20 6 (mI (sM (sM (sM (sM (sM s1 11 r1.toNatClampNeg (mI s1 21 4)) 20 4 (mI (sM s1 11 r1.toNatClampNeg (mI s1 21 4)) 20 5)) 21 4 (mI (sM (sM s1 11 r1.toNatClampNeg (mI s1 21 4)) 20 4 (mI (sM s1 11 r1.toNatClampNeg (mI s1 21 4)) 20 5)) 21 5)) 20 5 (mI (sM (sM (sM s1 11 r1.toNatClampNeg (mI s1 21 4)) 20 4 (mI (sM s1 11 r1.toNatClampNeg (mI s1 21 4)) 20 5)) 21 4 (mI (sM (sM s1 11 r1.toNatClampNeg (mI s1 21 4)) 20 4 (mI (sM s1 11 r1.toNatClampNeg (mI s1 21 4)) 20 5)) 21 5)) 20 6)) 21 5 (mI (sM (sM (sM (sM s1 11 r1.toNatClampNeg (mI s1 21 4)) 20 4 (mI (sM s1 11 r1.toNatClampNeg (mI s1 21 4)) 20 5)) 21 4 (mI (sM (sM s1 11 r1.toNatClampNeg (mI s1 21 4)) 20 4 (mI (sM s1 11 r1.toNatClampNeg (mI s1 21 4)) 20 5)) 21 5)) 20 5 (mI (sM (sM (sM s1 11 r1.toNatClampNeg (mI s1 21 4)) 20 4 (mI (sM s1 11 r1.toNatClampNeg (mI s1 21 4)) 20 5)) 21 4 (mI (sM (sM s1 11 r1.toNatClampNeg (mI s1 21 4)) 20 4 (mI (sM s1 11 r1.toNatClampNeg (mI s1 21 4)) 20 5)) 21 5)) 20 6)) 21 6)) 20 7)) 21 6 (mI (sM (sM (sM (sM (sM (sM s1 11 r1.toNatClampNeg (mI s1 21 4)) 20 4 (mI (sM s1 11 r1.toNatClampNeg (mI s1 21 4)) 20 5)) 21 4 (mI (sM (sM s1 11 r1.toNatClampNeg (mI s1 21 4)) 20 4 (mI (sM s1 11 r1.toNatClampNeg (mI s1 21 4)) 20 5)) 21 5)) 20 5 (mI (sM (sM (sM s1 11 r1.toNatClampNeg (mI s1 21 4)) 20 4 (mI (sM s1 11 r1.toNatClampNeg (mI s1 21 4)) 20 5)) 21 4 (mI (sM (sM s1 11 r1.toNatClampNeg (mI s1 21 4)) 20 4 (mI (sM s1 11 r1.toNatClampNeg (mI s1 21 4)) 20 5)) 21 5)) 20 6)) 21 5 (mI (sM (sM (sM (sM s1 11 r1.toNatClampNeg (mI s1 21 4)) 20 4 (mI (sM s1 11 r1.toNatClampNeg (mI s1 21 4)) 20 5)) 21 4 (mI (sM (sM s1 11 r1.toNatClampNeg (mI s1 21 4)) 20 4 (mI (sM s1 11 r1.toNatClampNeg (mI s1 21 4)) 20 5)) 21 5)) 20 5 (mI (sM (sM (sM s1 11 r1.toNatClampNeg (mI s1 21 4)) 20 4 (mI (sM s1 11 r1.toNatClampNeg (mI s1 21 4)) 20 5)) 21 4 (mI (sM (sM s1 11 r1.toNatClampNeg (mI s1 21 4)) 20 4 (mI (sM s1 11 r1.toNatClampNeg (mI s1 21 4)) 20 5)) 21 5)) 20 6)) 21 6)) 20 6 (mI (sM (sM (sM (sM (sM s1 11 r1.toNatClampNeg (mI s1 21 4)) 20 4 (mI (sM s1 11 r1.toNatClampNeg (mI s1 21 4)) 20 5)) 21 4 (mI (sM (sM s1 11 r1.toNatClampNeg (mI s1 21 4)) 20 4 (mI (sM s1 11 r1.toNatClampNeg (mI s1 21 4)) 20 5)) 21 5)) 20 5 (mI (sM (sM (sM s1 11 r1.toNatClampNeg (mI s1 21 4)) 20 4 (mI (sM s1 11 r1.toNatClampNeg (mI s1 21 4)) 20 5)) 21 4 (mI (sM (sM s1 11 r1.toNatClampNeg (mI s1 21 4)) 20 4 (mI (sM s1 11 r1.toNatClampNeg (mI s1 21 4)) 20 5)) 21 5)) 20 6)) 21 5 (mI (sM (sM (sM (sM s1 11 r1.toNatClampNeg (mI s1 21 4)) 20 4 (mI (sM s1 11 r1.toNatClampNeg (mI s1 21 4)) 20 5)) 21 4 (mI (sM (sM s1 11 r1.toNatClampNeg (mI s1 21 4)) 20 4 (mI (sM s1 11 r1.toNatClampNeg (mI s1 21 4)) 20 5)) 21 5)) 20 5 (mI (sM (sM (sM s1 11 r1.toNatClampNeg (mI s1 21 4)) 20 4 (mI (sM s1 11 r1.toNatClampNeg (mI s1 21 4)) 20 5)) 21 4 (mI (sM (sM s1 11 r1.toNatClampNeg (mI s1 21 4)) 20 4 (mI (sM s1 11 r1.toNatClampNeg (mI s1 21 4)) 20 5)) 21 5)) 20 6)) 21 6)) 20 7)) 21 7)) 19 1 ((mI (sM (sM (sM (sM (sM (sM (sM s1 11 r1.toNatClampNeg (mI s1 21 4)) 20 4 (mI (sM s1 11 r1.toNatClampNeg (mI s1 21 4)) 20 5)) 21 4 (mI (sM (sM s1 11 r1.toNatClampNeg (mI s1 21 4)) 20 4 (mI (sM s1 11 r1.toNatClampNeg (mI s1 21 4)) 20 5)) 21 5)) 20 5 (mI (sM (sM (sM s1 11 r1.toNatClampNeg (mI s1 21 4)) 20 4 (mI (sM s1 11 r1.toNatClampNeg (mI s1 21 4)) 20 5)) 21 4 (mI (sM (sM s1 11 r1.toNatClampNeg (mI s1 21 4)) 20 4 (mI (sM s1 11 r1.toNatClampNeg (mI s1 21 4)) 20 5)) 21 5)) 20 6)) 21 5 (mI (sM (sM (sM (sM s1 11 r1.toNatClampNeg (mI s1 21 4)) 20 4 (mI (sM s1 11 r1.toNatClampNeg (mI s1 21 4)) 20 5)) 21 4 (mI (sM (sM s1 11 r1.toNatClampNeg (mI s1 21 4)) 20 4 (mI (sM s1 11 r1.toNatClampNeg (mI s1 21 4)) 20 5)) 21 5)) 20 5 (mI (sM (sM (sM s1 11 r1.toNatClampNeg (mI s1 21 4)) 20 4 (mI (sM s1 11 r1.toNatClampNeg (mI s1 21 4)) 20 5)) 21 4 (mI (sM (sM s1 11 r1.toNatClampNeg (mI s1 21 4)) 20 4 (mI (sM s1 11 r1.toNatClampNeg (mI s1 21 4)) 20 5)) 21 5)) 20 6)) 21 6)) 20 6 (mI (sM (sM (sM (sM (sM s1 11 r1.toNatClampNeg (mI s1 21 4)) 20 4 (mI (sM s1 11 r1.toNatClampNeg (mI s1 21 4)) 20 5)) 21 4 (mI (sM (sM s1 11 r1.toNatClampNeg (mI s1 21 4)) 20 4 (mI (sM s1 11 r1.toNatClampNeg (mI s1 21 4)) 20 5)) 21 5)) 20 5 (mI (sM (sM (sM s1 11 r1.toNatClampNeg (mI s1 21 4)) 20 4 (mI (sM s1 11 r1.toNatClampNeg (mI s1 21 4)) 20 5)) 21 4 (mI (sM (sM s1 11 r1.toNatClampNeg (mI s1 21 4)) 20 4 (mI (sM s1 11 r1.toNatClampNeg (mI s1 21 4)) 20 5)) 21 5)) 20 6)) 21 5 (mI (sM (sM (sM (sM s1 11 r1.toNatClampNeg (mI s1 21 4)) 20 4 (mI (sM s1 11 r1.toNatClampNeg (mI s1 21 4)) 20 5)) 21 4 (mI (sM (sM s1 11 r1.toNatClampNeg (mI s1 21 4)) 20 4 (mI (sM s1 11 r1.toNatClampNeg (mI s1 21 4)) 20 5)) 21 5)) 20 5 (mI (sM (sM (sM s1 11 r1.toNatClampNeg (mI s1 21 4)) 20 4 (mI (sM s1 11 r1.toNatClampNeg (mI s1 21 4)) 20 5)) 21 4 (mI (sM (sM s1 11 r1.toNatClampNeg (mI s1 21 4)) 20 4 (mI (sM s1 11 r1.toNatClampNeg (mI s1 21 4)) 20 5)) 21 5)) 20 6)) 21 6)) 20 7)) 21 6 (mI (sM (sM (sM (sM (sM (sM s1 11 r1.toNatClampNeg (mI s1 21 4)) 20 4 (mI (sM s1 11 r1.toNatClampNeg (mI s1 21 4)) 20 5)) 21 4 (mI (sM (sM s1 11 r1.toNatClampNeg (mI s1 21 4)) 20 4 (mI (sM s1 11 r1.toNatClampNeg (mI s1 21 4)) 20 5)) 21 5)) 20 5 (mI (sM (sM (sM s1 11 r1.toNatClampNeg (mI s1 21 4)) 20 4 (mI (sM s1 11 r1.toNatClampNeg (mI s1 21 4)) 20 5)) 21 4 (mI (sM (sM s1 11 r1.toNatClampNeg (mI s1 21 4)) 20 4 (mI (sM s1 11 r1.toNatClampNeg (mI s1 21 4)) 20 5)) 21 5)) 20 6)) 21 5 (mI (sM (sM (sM (sM s1 11 r1.toNatClampNeg (mI s1 21 4)) 20 4 (mI (sM s1 11 r1.toNatClampNeg (mI s1 21 4)) 20 5)) 21 4 (mI (sM (sM s1 11 r1.toNatClampNeg (mI s1 21 4)) 20 4 (mI (sM s1 11 r1.toNatClampNeg (mI s1 21 4)) 20 5)) 21 5)) 20 5 (mI (sM (sM (sM s1 11 r1.toNatClampNeg (mI s1 21 4)) 20 4 (mI (sM s1 11 r1.toNatClampNeg (mI s1 21 4)) 20 5)) 21 4 (mI (sM (sM s1 11 r1.toNatClampNeg (mI s1 21 4)) 20 4 (mI (sM s1 11 r1.toNatClampNeg (mI s1 21 4)) 20 5)) 21 5)) 20 6)) 21 6)) 20 6 (mI (sM (sM (sM (sM (sM s1 11 r1.toNatClampNeg (mI s1 21 4)) 20 4 (mI (sM s1 11 r1.toNatClampNeg (mI s1 21 4)) 20 5)) 21 4 (mI (sM (sM s1 11 r1.toNatClampNeg (mI s1 21 4)) 20 4 (mI (sM s1 11 r1.toNatClampNeg (mI s1 21 4)) 20 5)) 21 5)) 20 5 (mI (sM (sM (sM s1 11 r1.toNatClampNeg (mI s1 21 4)) 20 4 (mI (sM s1 11 r1.toNatClampNeg (mI s1 21 4)) 20 5)) 21 4 (mI (sM (sM s1 11 r1.toNatClampNeg (mI s1 21 4)) 20 4 (mI (sM s1 11 r1.toNatClampNeg (mI s1 21 4)) 20 5)) 21 5)) 20 6)) 21 5 (mI (sM (sM (sM (sM s1 11 r1.toNatClampNeg (mI s1 21 4)) 20 4 (mI (sM s1 11 r1.toNatClampNeg (mI s1 21 4)) 20 5)) 21 4 (mI (sM (sM s1 11 r1.toNatClampNeg (mI s1 21 4)) 20 4 (mI (sM s1 11 r1.toNatClampNeg (mI s1 21 4)) 20 5)) 21 5)) 20 5 (mI (sM (sM (sM s1 11 r1.toNatClampNeg (mI s1 21 4)) 20 4 (mI (sM s1 11 r1.toNatClampNeg (mI s1 21 4)) 20 5)) 21 4 (mI (sM (sM s1 11 r1.toNatClampNeg (mI s1 21 4)) 20 4 (mI (sM s1 11 r1.toNatClampNeg (mI s1 21 4)) 20 5)) 21 5)) 20 6)) 21 6)) 20 7)) 21 7)) 19 1) - 1)) 41) (fun r6 s6 =>
              if 0 ≤ r6 then
                kk_v (mf_comeIn s6 1 (mI s6 13 r6.toNatClampNeg) (mI s6 14 r6.toNatClampNeg)) (fun s7 =>
                  kk_v (mf_ready (sM s7 11 r6.toNatClampNeg 0) r6) (fun s8 =>
                    (0, s8)))
              else
                (0, s6))
      else
        ((-1), s1)
    else
      ((-1), s1))
def mf_sleep (μ : km_S) (n1 : Int32) : Int32 × km_S :=
  kk_b (mf_running μ) (fun r1 s1 =>
    if n1 < 1 then
      ((-1), s1)
    else
      if 1000 < n1 then
        ((-1), s1)
      else
        if 0 ≤ r1 then
          kk_v (mf_block s1 r1 60 ((mI s1 2 0) + n1)) (fun s2 =>
            (1, s2))
        else
          ((-1), s1))
def mf_join (μ : km_S) (th : Int32) : Int32 × km_S :=
  kk_b (mf_running μ) (fun r1 s1 =>
    if (mf_out th 8) = 0 then
      if 0 ≤ r1 then
        if (mI s1 4 th.toNatClampNeg) = 3 then
          (0, sM (sM s1 4 th.toNatClampNeg 0) 11 r1.toNatClampNeg (mI (sM s1 4 th.toNatClampNeg 0) 11 th.toNatClampNeg))
        else
          if (mI s1 4 th.toNatClampNeg) = 0 then
            ((-1), s1)
          else
            if th = r1 then
              ((-1), s1)
            else
              kk_b (mf_firstWaiter s1 (70 + th)) (fun r2 s2 =>
                if r2 < 0 then
                  kk_v (mf_block s2 r1 (70 + th) 0) (fun s3 =>
                    (1, s3))
                else
                  ((-1), s2))
      else
        ((-1), s1)
    else
      ((-1), s1))
def mf_exit_L13 (value : Int32) (r : Int32) : Nat → Nat → km_S → Int32 × km_S
  | 0, k, μ =>
    kk_b (mf_firstWaiter (sM (sM μ 11 r.toNatClampNeg value) 4 r.toNatClampNeg 3) (70 + r)) (fun r1 s1 =>
      if r1 < 0 then
        (0, s1)
      else
        kk_v (mf_ready (sM (sM s1 4 r.toNatClampNeg 0) 11 r1.toNatClampNeg value) r1) (fun s2 =>
          (0, s2)))
  | n + 1, k, μ =>
    if (mI μ 17 k) = r then
      ((-1), μ)
    else
      mf_exit_L13 value r n (k + 1)  μ
def mf_exit (μ : km_S) (value : Int32) : Int32 × km_S :=
  kk_b (mf_running μ) (fun r3 s3 =>
    if 0 ≤ r3 then
      mf_exit_L13 value r3 4 0  s3
    else
      ((-1), s3))
def mf_deadlineComes (μ : km_S) (t : Int32) : km_S :=
  if (mI μ 8 t.toNatClampNeg) = 20 then
    kk_v (mf_retake μ t 2) (fun s1 =>
      s1)
  else
    if (mI μ 8 t.toNatClampNeg) = 21 then
      kk_v (mf_retake μ t 2) (fun s4 =>
        s4)
    else
      if (mI μ 8 t.toNatClampNeg) = 60 then
        kk_v (mf_ready (sM μ 11 t.toNatClampNeg 0) t) (fun s3 =>
          s3)
      else
        kk_v (mf_ready (sM μ 11 t.toNatClampNeg 2) t) (fun s2 =>
          s2)
def mf_tick_L83 (n1 : Int32) : Nat → Nat → km_S → km_S
  | 0, k, μ =>
    μ
  | n + 1, k, μ =>
    if (mI μ 4 k) = 2 then
      if (mI μ 10 k) = (mI μ 2 0) then
        kk_v (mf_deadlineComes μ (nI k)) (fun s1 =>
          mf_tick_L83 n1 n (k + 1)  s1)
      else
        mf_tick_L83 n1 n (k + 1)  μ
    else
      mf_tick_L83 n1 n (k + 1)  μ
def mf_tick_L15 (n1 : Int32) : Nat → Nat → km_S → Int32 × km_S
  | 0, k, μ =>
    kk_b (mf_running μ) (fun r2 s2 =>
      (r2, s2))
  | n + 1, k, μ =>
    kk_b (mf_running μ) (fun r3 s3 =>
      if r3 < 0 then
        kk_v (mf_tick_L83 n1 8 0  (sM s3 2 0 ((mI s3 2 0) + 1))) (fun s4 =>
          mf_tick_L15 n1 n (k + 1)  s4)
      else
        if (mI (sM (sM s3 2 0 ((mI s3 2 0) + 1)) 7 r3.toNatClampNeg ((mI (sM s3 2 0 ((mI s3 2 0) + 1)) 7 r3.toNatClampNeg) + 1)) 15 r3.toNatClampNeg) = 0 then
          kk_v (mf_tick_L83 n1 8 0  (sM (sM s3 2 0 ((mI s3 2 0) + 1)) 7 r3.toNatClampNeg ((mI (sM s3 2 0 ((mI s3 2 0) + 1)) 7 r3.toNatClampNeg) + 1))) (fun s5 =>
            mf_tick_L15 n1 n (k + 1)  s5)
        else
          if (mI (sM (sM s3 2 0 ((mI s3 2 0) + 1)) 7 r3.toNatClampNeg ((mI (sM s3 2 0 ((mI s3 2 0) + 1)) 7 r3.toNatClampNeg) + 1)) 7 r3.toNatClampNeg) = (mI (sM (sM s3 2 0 ((mI s3 2 0) + 1)) 7 r3.toNatClampNeg ((mI (sM s3 2 0 ((mI s3 2 0) + 1)) 7 r3.toNatClampNeg) + 1)) 0 0) then
            kk_v (mf_ready (sM (sM s3 2 0 ((mI s3 2 0) + 1)) 7 r3.toNatClampNeg ((mI (sM s3 2 0 ((mI s3 2 0) + 1)) 7 r3.toNatClampNeg) + 1)) r3) (fun s7 =>
              kk_v (mf_tick_L83 n1 8 0  s7) (fun s8 =>
                mf_tick_L15 n1 n (k + 1)  s8))
          else
            kk_v (mf_tick_L83 n1 8 0  (sM (sM s3 2 0 ((mI s3 2 0) + 1)) 7 r3.toNatClampNeg ((mI (sM s3 2 0 ((mI s3 2 0) + 1)) 7 r3.toNatClampNeg) + 1))) (fun s6 =>
              mf_tick_L15 n1 n (k + 1)  s6))
def mf_tick (μ : km_S) (n1 : Int32) : Int32 × km_S :=
  if n1 < 1 then
    ((-1), μ)
  else
    if n1 ≤ 100 then
      mf_tick_L15 n1 n1.toNatClampNeg 0  μ
    else
      ((-1), μ)
def mf_tell (μ : km_S) (th : Int32) (what : Int32) : Int64 × km_S :=
  if (mf_out th 8) = 0 then
    if what < 0 then
      (1000000000000, μ)
    else
      if 5 < what then
        (1000000000000, μ)
      else
        if (mI μ 4 th.toNatClampNeg) = 0 then
          if what ≤ 0 then
            kk_v (mf_weigh μ) (fun s2 =>
              if what = 0 then
                ((mI s2 4 th.toNatClampNeg).toInt64, s2)
              else
                if what = 1 then
                  ((mI s2 5 th.toNatClampNeg).toInt64, s2)
                else
                  if what = 2 then
                    ((mI s2 22 th.toNatClampNeg).toInt64, s2)
                  else
                    if what = 3 then
                      ((mI s2 11 th.toNatClampNeg).toInt64, s2)
                    else
                      if what = 4 then
                        if (mI s2 4 th.toNatClampNeg) = 2 then
                          ((mI s2 8 th.toNatClampNeg).toInt64, s2)
                        else
                          (0, s2)
                      else
                        if (mI s2 4 th.toNatClampNeg) = 2 then
                          if (mI s2 10 th.toNatClampNeg) ≤ 0 then
                            (1000000000000, s2)
                          else
                            ((mI s2 10 th.toNatClampNeg).toInt64, s2)
                        else
                          (1000000000000, s2))
          else
            (1000000000000, μ)
        else
          kk_v (mf_weigh μ) (fun s1 =>
            if what = 0 then
              ((mI s1 4 th.toNatClampNeg).toInt64, s1)
            else
              if what = 1 then
                ((mI s1 5 th.toNatClampNeg).toInt64, s1)
              else
                if what = 2 then
                  ((mI s1 22 th.toNatClampNeg).toInt64, s1)
                else
                  if what = 3 then
                    ((mI s1 11 th.toNatClampNeg).toInt64, s1)
                  else
                    if what = 4 then
                      if (mI s1 4 th.toNatClampNeg) = 2 then
                        ((mI s1 8 th.toNatClampNeg).toInt64, s1)
                      else
                        (0, s1)
                    else
                      if (mI s1 4 th.toNatClampNeg) = 2 then
                        if (mI s1 10 th.toNatClampNeg) ≤ 0 then
                          (1000000000000, s1)
                        else
                          ((mI s1 10 th.toNatClampNeg).toInt64, s1)
                      else
                        (1000000000000, s1))
  else
    (1000000000000, μ)
def mf_owner (μ : km_S) (m1 : Int32) : Int32 × km_S :=
  if (mf_out m1 4) = 0 then
    (mI μ 17 m1.toNatClampNeg, μ)
  else
    ((-1), μ)
def mf_count_L4 (what : Int32) : Nat → Nat → Int32 → km_S → Int32 × km_S
  | 0, k, n2, μ =>
    if what = 0 then
      (mI μ 18 what.toNatClampNeg, μ)
    else
      if what = 1 then
        (mI μ 18 what.toNatClampNeg, μ)
      else
        if what = 2 then
          (mI μ 19 (what - 2).toNatClampNeg, μ)
        else
          if what = 3 then
            (mI μ 19 (what - 2).toNatClampNeg, μ)
          else
            if what = 4 then
              (mI μ 2 0, μ)
            else
              if what = 5 then
                (n2, μ)
              else
                ((-1), μ)
  | n + 1, k, n2, μ =>
    if (mI μ 4 k) = 1 then
      mf_count_L4 what n (k + 1) (n2 + 1) μ
    else
      mf_count_L4 what n (k + 1) n2 μ
def mf_count (μ : km_S) (what : Int32) : Int32 × km_S :=
  mf_count_L4 what 8 0 0 μ
end
section
/-! what the walks need of the pure functions -/
theorem kx_in {x N : Int32} {n : Nat} (hN : N.toInt = n) (h : ¬ xf_isBelow x N = 0) : vp_in x n := by
  unfold xf_isBelow at h
  rw [vp_in_iff]
  by_cases h0 : x < 0
  · rw [if_pos h0] at h; exact absurd rfl h
  · rw [if_neg h0] at h
    by_cases h1 : N ≤ x
    · rw [if_pos h1] at h; exact absurd rfl h
    · rw [Int32.lt_iff_toInt_lt] at h0
      rw [Int32.le_iff_toInt_le] at h1
      have z : (0 : Int32).toInt = 0 := by decide
      omega
theorem km_in {x N : Int32} {n : Nat} (hN : N.toInt = n) (h : mf_out x N = 0) : vp_in x n := by
  unfold mf_out at h
  rw [vp_in_iff]
  by_cases h0 : x < 0
  · rw [if_pos h0] at h; exact absurd h (by decide)
  · rw [if_neg h0] at h
    by_cases h1 : x < N
    · rw [Int32.lt_iff_toInt_lt] at h0 h1
      have z : (0 : Int32).toInt = 0 := by decide
      omega
    · rw [if_neg h1] at h; exact absurd h (by decide)
theorem kx_nfull_0 {S u : kx_S} {r : Int32} (h : xf_isFull_0 S = (r, u)) (h0 : r = 0) : ¬ kI u 9 0 = 4 := by
  unfold xf_isFull_0 at h
  by_cases c : kI S 9 0 = 4
  · rw [if_pos c] at h; cases h; exact absurd h0 (by decide)
  · rw [if_neg c] at h; cases h; exact c
theorem kx_nfull_1 {S u : kx_S} {r : Int32} (h : xf_isFull_1 S = (r, u)) (h0 : r = 0) : ¬ kI u 9 1 = 4 := by
  unfold xf_isFull_1 at h
  by_cases c : kI S 9 1 = 4
  · rw [if_pos c] at h; cases h; exact absurd h0 (by decide)
  · rw [if_neg c] at h; cases h; exact c
theorem kx_nempty_0 {S u : kx_S} {r : Int32} (h : xf_isEmpty_0 S = (r, u)) (h0 : r = 0) : ¬ kI u 9 0 = 0 := by
  unfold xf_isEmpty_0 at h
  by_cases c : kI S 9 0 = 0
  · rw [if_pos c] at h; cases h; exact absurd h0 (by decide)
  · rw [if_neg c] at h; cases h; exact c
theorem kx_nempty_1 {S u : kx_S} {r : Int32} (h : xf_isEmpty_1 S = (r, u)) (h0 : r = 0) : ¬ kI u 9 1 = 0 := by
  unfold xf_isEmpty_1 at h
  by_cases c : kI S 9 1 = 0
  · rw [if_pos c] at h; cases h; exact absurd h0 (by decide)
  · rw [if_neg c] at h; cases h; exact c
/-! the reference's weighing touches 'urgent' alone -/
theorem mf_L66_fr : ∀ (n k : Nat) (μ : km_S) (f i : Nat), f ≠ 22 → mI (mf_weigh_L66 n k μ) f i = mI μ f i := by
  intro n
  induction n with
  | zero => intro k μ f i hf; rfl
  | succ n ih =>
    intro k μ f i hf
    rw [mf_weigh_L66]
    repeat' split
    all_goals first
      | exact ih _ _ _ _ hf
      | rw [ih _ _ _ _ hf, mI_sM, if_neg (fun h => hf h.1)]
theorem mf_L58_fr : ∀ (n k : Nat) (μ : km_S) (f i : Nat), f ≠ 22 → mI (mf_weigh_L58 n k μ) f i = mI μ f i := by
  intro n
  induction n with
  | zero => intro k μ f i hf; rfl
  | succ n ih =>
    intro k μ f i hf
    rw [mf_weigh_L58, kk_v, ih _ _ _ _ hf, mf_L66_fr _ _ _ _ _ hf]
theorem mf_L2_fr : ∀ (n k : Nat) (μ : km_S) (f i : Nat), f ≠ 22 → mI (mf_weigh_L2 n k μ) f i = mI μ f i := by
  intro n
  induction n with
  | zero => intro k μ f i hf; exact mf_L58_fr _ _ _ _ _ hf
  | succ n ih =>
    intro k μ f i hf
    rw [mf_weigh_L2]
    repeat' split
    all_goals rw [ih _ _ _ _ hf, mI_sM, if_neg (fun h => hf h.1)]
theorem mf_weigh_fr (μ : km_S) (f i : Nat) (hf : f ≠ 22) : mI (mf_weigh μ) f i = mI μ f i := mf_L2_fr _ _ _ _ _ hf
theorem mf_run_L8_st : ∀ (n k : Nat) (b : Int32) (μ : km_S), (mf_running_L8 n k b μ).2 = μ := by
  intro n
  induction n with
  | zero => intro k b μ; rfl
  | succ n ih =>
    intro k b μ
    rw [mf_running_L8]
    repeat' split
    all_goals exact ih _ _ _
theorem mf_fw_L8_st (w : Int32) : ∀ (n k : Nat) (b : Int32) (μ : km_S), (mf_firstWaiter_L8 w n k b μ).2 = μ := by
  intro n
  induction n with
  | zero => intro k b μ; rfl
  | succ n ih =>
    intro k b μ
    rw [mf_firstWaiter_L8]
    repeat' split
    all_goals exact ih _ _ _
theorem mf_run_st (μ : km_S) : (mf_running μ).2 = mf_weigh μ := by
  rw [mf_running, kk_v]
  exact mf_run_L8_st _ _ _ _
theorem mf_fw_st (μ : km_S) (w : Int32) : (mf_firstWaiter μ w).2 = mf_weigh μ := by
  rw [mf_firstWaiter, kk_v]
  exact mf_fw_L8_st _ _ _ _ _
theorem mf_fw_fr {μ u : km_S} {w r : Int32} (h : mf_firstWaiter μ w = (r, u)) (f i : Nat) (hf : f ≠ 22) : mI u f i = mI μ f i := by
  have e := mf_fw_st μ w
  rw [h] at e
  have e2 : u = mf_weigh μ := e
  rw [e2]
  exact mf_weigh_fr μ f i hf
theorem mf_run_fr {μ u : km_S} {r : Int32} (h : mf_running μ = (r, u)) (f i : Nat) (hf : f ≠ 22) : mI u f i = mI μ f i := by
  have e := mf_run_st μ
  rw [h] at e
  have e2 : u = mf_weigh μ := e
  rw [e2]
  exact mf_weigh_fr μ f i hf
theorem km_mes_send {s u : km_S} {r w q v : Int32} {j : Nat} (hw : km_wf s) (h : mf_firstWaiter (sM s 11 j v) w = (r, u)) (c : ¬ mI s 19 q.toNatClampNeg = 4) (hq : vp_in q 2) : ∃ j, j < 4 ∧ mI u 19 q.toNatClampNeg = nI j := by
  obtain ⟨i, hi, e⟩ := hw.2.2 _ (kx_lt hq)
  refine ⟨i, ?_, ?_⟩
  · rcases (show i < 4 ∨ i = 4 by omega) with h4 | rfl
    · exact h4
    · exact absurd e c
  · rw [mf_fw_fr h 19 _ (by decide), mI_sM, if_neg (fun h => absurd h.1 (by decide)), e]
theorem km_mes_rec {s S u : km_S} {r w q : Int32} {k : Nat} (hk : q.toNatClampNeg = k) (hw : km_wf s) (hq : k < 2) (c : ¬ mI s 19 k = 0) (h : mf_firstWaiter S w = (r, u)) (e : mI S 19 k = mI s 19 k - 1) : ∃ j, j < 4 ∧ mI u 19 q.toNatClampNeg = nI j := by
  rw [hk, mf_fw_fr h 19 _ (by decide), e]
  obtain ⟨j, hj, e2⟩ := hw.2.2 k hq
  rw [e2] at c ⊢
  rcases (show j = 0 ∨ j = 1 ∨ j = 2 ∨ j = 3 ∨ j = 4 by omega) with rfl | rfl | rfl | rfl | rfl
  · exact absurd rfl c
  · exact ⟨0, by decide, by decide⟩
  · exact ⟨1, by decide, by decide⟩
  · exact ⟨2, by decide, by decide⟩
  · exact ⟨3, by decide, by decide⟩
end
section
/-! class and reference side by side: what is the same, what is kept -/
def kr_t (N : Nat) (σ : kx_S) (μ : km_S) (t : Nat) : Prop :=
  (kI σ 10 t = mI μ 4 t ∧ kI σ 16 t = mI μ 8 t ∧ kI σ 13 t = mI μ 15 t ∧ kI σ 14 t = mI μ 7 t ∧ (kI σ 17 t = mI μ 12 t ∧ vp_in (kI σ 17 t) 4) ∧ kI σ 19 t = mI μ 13 t ∧ kI σ 20 t = mI μ 14 t) ∧
  (¬ kI σ 10 t = 0 → kI σ 11 t = mI μ 5 t ∧ kI σ 15 t = mI μ 11 t) ∧
  ((kJ σ 1 t = 1000000000000 ∧ mI μ 10 t = 0) ∨ ∃ d : Nat, 0 < d ∧ d < 2 ^ 30 ∧ kJ σ 1 t = lN d ∧ mI μ 10 t = nI d ∧ kI σ 10 t = 2) ∧
  (¬ kI σ 10 t = 2 → kI σ 16 t = 0) ∧
  (kI σ 10 t = 1 → ∃ a, a ≤ N ∧ kJ σ 0 t = lN a ∧ mI μ 6 t = nI a) ∧
  (kI σ 10 t = 2 → ∃ a, a ≤ N ∧ kJ σ 0 t = lN a ∧ mI μ 9 t = nI a) ∧
  (∀ m : Nat, m < 4 → kI σ 16 t = 10 + nI m → (mI μ 16 t = 0 → kI σ 18 t = 0) ∧ (¬ mI μ 16 t = 0 → kI σ 18 t = mI μ 11 t))
def kr_g (N B : Nat) (σ : kx_S) (μ : km_S) : Prop :=
  kI σ 0 0 = mI μ 0 0 ∧ kI σ 1 0 = mI μ 1 0 ∧ (∃ T, T ≤ B ∧ kI σ 2 0 = nI T ∧ mI μ 2 0 = nI T) ∧ ∃ n, n ≤ N ∧ kJ σ 2 0 = lN n ∧ mI μ 3 0 = nI n
def kr_o (σ : kx_S) (μ : km_S) : Prop := ∀ m, m < 4 → kI σ 3 m = mI μ 17 m ∧ (kI σ 3 m = -1 ∨ ∃ t, t < 8 ∧ kI σ 3 m = nI t ∧ (kI σ 10 t = 1 ∨ kI σ 10 t = 2))
def kr_v (σ : kx_S) (μ : km_S) : Prop := ∀ s, s < 2 → kI σ 4 s = mI μ 18 s ∧ ∃ j, j ≤ 99 ∧ kI σ 4 s = nI j
def kr_q (σ : kx_S) (μ : km_S) : Prop := ∀ q, q < 2 → ∃ j, j ≤ 4 ∧ kI σ 9 q = nI j ∧ mI μ 19 q = nI j ∧ ∀ i, i < j → kI σ (5 + q) i = mI μ 20 (4 * q + i) ∧ kI σ (7 + q) i = mI μ 21 (4 * q + i)
def kr_b (x : Nat) (σ : kx_S) : Prop := ∀ t q, t < 8 → q < 2 → ¬ q = x → (kI σ 16 t = 40 + nI q → kI σ 9 q = 4) ∧ (kI σ 16 t = 50 + nI q → kI σ 9 q = 0)
def kr (N B x : Nat) (σ : kx_S) (μ : km_S) : Prop := kr_g N B σ μ ∧ kr_o σ μ ∧ kr_v σ μ ∧ kr_q σ μ ∧ kr_b x σ ∧ ∀ t, t < 8 → kr_t N σ μ t
theorem kr_t_fr {N N' : Nat} {σ σ' : kx_S} {μ μ' : km_S} {t : Nat} (hN : N ≤ N') (hx : ∀ f, 10 ≤ f → f ≠ 12 → kI σ' f t = kI σ f t) (hj : ∀ f, f < 2 → kJ σ' f t = kJ σ f t) (hm : ∀ f, 4 ≤ f → f ≤ 16 → mI μ' f t = mI μ f t) (h : kr_t N σ μ t) : kr_t N' σ' μ' t := by
  unfold kr_t at h ⊢
  rw [hx 10 (by decide) (by decide), hx 16 (by decide) (by decide), hx 13 (by decide) (by decide), hx 14 (by decide) (by decide), hx 17 (by decide) (by decide), hx 19 (by decide) (by decide), hx 20 (by decide) (by decide), hx 11 (by decide) (by decide), hx 15 (by decide) (by decide), hx 18 (by decide) (by decide), hj 0 (by decide), hj 1 (by decide),
    hm 4 (by decide) (by decide), hm 8 (by decide) (by decide), hm 15 (by decide) (by decide), hm 7 (by decide) (by decide), hm 12 (by decide) (by decide), hm 13 (by decide) (by decide), hm 14 (by decide) (by decide), hm 5 (by decide) (by decide), hm 11 (by decide) (by decide), hm 10 (by decide) (by decide), hm 6 (by decide) (by decide), hm 9 (by decide) (by decide), hm 16 (by decide) (by decide)]
  obtain ⟨h1, h2, h3, h4, h5, h6, h7⟩ := h
  refine ⟨h1, h2, h3, h4, fun e => ?_, fun e => ?_, h7⟩
  · obtain ⟨a, ha, r⟩ := h5 e; exact ⟨a, Nat.le_trans ha hN, r⟩
  · obtain ⟨a, ha, r⟩ := h6 e; exact ⟨a, Nat.le_trans ha hN, r⟩
theorem kr_up {N N' B x : Nat} {σ σ' : kx_S} {μ μ' : km_S} {t : Nat} (h : kr N B x σ μ) (hN : N ≤ N')
    (hx : ∀ f i, f ≠ 12 → ¬ (10 ≤ f ∧ i = t) → kI σ' f i = kI σ f i)
    (hj : ∀ f i, f < 2 → i ≠ t → kJ σ' f i = kJ σ f i)
    (hm : ∀ f i, f ≠ 22 → f ≠ 3 → ¬ (4 ≤ f ∧ f ≤ 16 ∧ i = t) → mI μ' f i = mI μ f i)
    (hc : ∃ n, n ≤ N' ∧ kJ σ' 2 0 = lN n ∧ mI μ' 3 0 = nI n)
    (ht : kr_t N' σ' μ' t)
    (hb : ∀ q, q < 2 → ¬ q = x → (kI σ' 16 t = 40 + nI q → kI σ 9 q = 4) ∧ (kI σ' 16 t = 50 + nI q → kI σ 9 q = 0))
    (ho : (kI σ' 10 t = 1 ∨ kI σ' 10 t = 2) ∨ ∀ m, m < 4 → ¬ kI σ 3 m = nI t) : kr N' B x σ' μ' := by
  obtain ⟨⟨g1, g2, ⟨T, gT, g3, g4⟩, -⟩, o, v, q, b, th⟩ := h
  refine ⟨⟨?_, ?_, ⟨T, gT, ?_, ?_⟩, hc⟩, ?_, ?_, ?_, ?_, ?_⟩
  · rw [hx 0 0 (by decide) (by omega), hm 0 0 (by decide) (by decide) (by omega)]; exact g1
  · rw [hx 1 0 (by decide) (by omega), hm 1 0 (by decide) (by decide) (by omega)]; exact g2
  · rw [hx 2 0 (by decide) (by omega)]; exact g3
  · rw [hm 2 0 (by decide) (by decide) (by omega)]; exact g4
  · intro m h4
    rw [hx 3 m (by decide) (by omega), hm 17 m (by decide) (by decide) (by omega)]
    obtain ⟨a, c⟩ := o m h4
    refine ⟨a, ?_⟩
    rcases c with c | ⟨t2, c1, c2, c3⟩
    · exact Or.inl c
    · refine Or.inr ⟨t2, c1, c2, ?_⟩
      by_cases e : t2 = t
      · subst e
        rcases ho with ho | ho
        · exact ho
        · exact absurd c2 (ho m h4)
      · rw [hx 10 t2 (by decide) (by omega)]; exact c3
  · intro s hs
    rw [hx 4 s (by decide) (by omega), hm 18 s (by decide) (by decide) (by omega)]; exact v s hs
  · intro q2 hq
    obtain ⟨j, hj4, e1, e2, e3⟩ := q q2 hq
    refine ⟨j, hj4, ?_, ?_, fun i hi => ?_⟩
    · rw [hx 9 q2 (by decide) (by omega)]; exact e1
    · rw [hm 19 q2 (by decide) (by decide) (by omega)]; exact e2
    · rw [hx (5 + q2) i (by omega) (by omega), hx (7 + q2) i (by omega) (by omega), hm 20 _ (by decide) (by decide) (by omega), hm 21 _ (by decide) (by decide) (by omega)]
      exact e3 i hi
  · intro t2 q2 ht2 hq hqx
    rw [hx 9 q2 (by decide) (by omega)]
    by_cases e : t2 = t
    · subst e; exact hb q2 hq hqx
    · rw [hx 16 t2 (by decide) (by omega)]; exact b t2 q2 ht2 hq hqx
  · intro t2 ht2
    by_cases e : t2 = t
    · subst e; exact ht
    · exact kr_t_fr hN (fun f h1 h2 => hx f t2 h2 (by omega)) (fun f h1 => hj f t2 h1 e) (fun f h1 h2 => hm f t2 (by omega) (by omega) (by omega)) (th t2 ht2)
/-- nothing but the weighing has changed -/
theorem kr_fr {N B x : Nat} {σ σ' : kx_S} {μ μ' : km_S} (h : kr N B x σ μ) (hx : ∀ f i, f ≠ 12 → kI σ' f i = kI σ f i) (hj : ∀ f i, kJ σ' f i = kJ σ f i) (hm : ∀ f i, f ≠ 22 → mI μ' f i = mI μ f i) : kr N B x σ' μ' := by
  have h8 := h
  obtain ⟨⟨-, -, -, n, n1, n2, n3⟩, -, -, -, b, th⟩ := h8
  by_cases e : 9 < 8
  · omega
  · refine kr_up (t := 0) h (Nat.le_refl N) (fun f i h1 _ => hx f i h1) (fun f i _ _ => hj f i) (fun f i h1 _ _ => hm f i h1) ⟨n, n1, by rw [hj]; exact n2, by rw [hm _ _ (by decide)]; exact n3⟩ (kr_t_fr (Nat.le_refl N) (fun f _ h2 => hx f 0 h2) (fun f _ => hj f 0) (fun f _ h2 => hm f 0 (by omega)) (th 0 (by decide))) (fun q hq hqx => ?_) ?_
    · rw [hx 16 0 (by decide)]; exact b 0 q (by decide) hq hqx
    · rw [hx 10 0 (by decide)]
      by_cases e1 : kI σ 10 0 = 1
      · exact Or.inl (Or.inl e1)
      · by_cases e2 : kI σ 10 0 = 2
        · exact Or.inl (Or.inr e2)
        · refine Or.inr (fun m hm4 e3 => ?_)
          rcases (h.2.1 m hm4).2 with c | ⟨t2, c1, c2, c3⟩
          · rw [c] at e3; exact absurd e3 (by decide)
          · rw [c2] at e3
            have := (nI_eq (a := t2) (b := 0) (by omega) (by omega)).mp e3
            subst this
            rcases c3 with c3 | c3
            · exact e1 c3
            · exact e2 c3
theorem kr_mono {N N' B x : Nat} {σ : kx_S} {μ : km_S} (hN : N ≤ N') (h : kr N B x σ μ) : kr N' B x σ μ := by
  obtain ⟨⟨g1, g2, g3, n, n1, n2⟩, o, v, q, b, th⟩ := h
  exact ⟨⟨g1, g2, g3, n, Nat.le_trans n1 hN, n2⟩, o, v, q, b, fun t ht => kr_t_fr hN (fun _ _ _ => rfl) (fun _ _ => rfl) (fun _ _ _ => rfl) (th t ht)⟩
theorem kr_monoB {N B B' x : Nat} {σ : kx_S} {μ : km_S} (hB : B ≤ B') (h : kr N B x σ μ) : kr N B' x σ μ := by
  obtain ⟨⟨g1, g2, ⟨T, t1, t2⟩, n⟩, r⟩ := h
  exact ⟨⟨g1, g2, ⟨T, Nat.le_trans t1 hB, t2⟩, n⟩, r⟩
theorem kr_own {N B x : Nat} {σ : kx_S} {μ : km_S} {m : Nat} {v : Int32} (h : kr N B x σ μ) (hv : v = -1 ∨ ∃ t, t < 8 ∧ v = nI t ∧ (kI σ 10 t = 1 ∨ kI σ 10 t = 2)) : kr N B x (sI σ 3 m v) (sM μ 17 m v) := by
  obtain ⟨g, o, vv, q, b, th⟩ := h
  refine ⟨g, fun m2 hm2 => ?_, vv, fun q2 hq2 => ?_, b, fun t ht => kr_t_fr (Nat.le_refl N) (fun f h1 _ => by rw [kI_sI, if_neg (by omega)]) (fun _ _ => rfl) (fun f h1 h2 => by rw [mI_sM, if_neg (by omega)]) (th t ht)⟩
  · rw [kI_sI, mI_sM]
    by_cases e : m2 = m
    · rw [if_pos ⟨rfl, e⟩, if_pos ⟨rfl, e⟩]
      exact ⟨rfl, hv⟩
    · rw [if_neg (fun z => e z.2), if_neg (fun z => e z.2)]
      exact o m2 hm2
  · obtain ⟨j, j1, j2, j3, j4⟩ := q q2 hq2
    refine ⟨j, j1, j2, j3, fun i hi => ?_⟩
    rw [kI_sI, if_neg (by omega), kI_sI, if_neg (by omega)]
    exact j4 i hi
end
section
/-! the weighing, and who comes first -/
def kx_hv (σ : kx_S) (t : Nat) : Int32 := if kI σ 16 t = 11 then kI σ 3 1 else if kI σ 16 t = 12 then kI σ 3 2 else -1
theorem xf_heir (σ : kx_S) (t : Nat) : xf_heirOf σ t = (kx_hv σ t, σ) := by
  unfold xf_heirOf kx_hv
  by_cases c1 : kI σ 16 t = 11
  · rw [if_pos c1, if_pos c1]
  · rw [if_neg c1, if_neg c1]
    by_cases c2 : kI σ 16 t = 12
    · rw [if_pos c2, if_pos c2]
    · rw [if_neg c2, if_neg c2]
def kr_e (σ : kx_S) (μ : km_S) : Prop := ∀ t, t < 8 → ¬ kI σ 10 t = 0 → kI σ 12 t = mI μ 22 t
theorem kk_s10 {x c : Int32} (h : x - 10 = c) : x = c + 10 := by
  rw [← h, Int32.sub_add_cancel]
theorem kr_step {N B x n k j : Nat} {r : Int32} {σ : kx_S} {μ : km_S} (hk : k < 8) (hj : j < 4) (h : kr N B x σ μ) (he : kr_e σ μ) (hst : kI σ 10 k = 2)
    (ih : ∀ (r : Int32) (σ : kx_S) (μ : km_S), kr N B x σ μ → kr_e σ μ → ∀ (r2 : Int32) (σ2 : kx_S) (μ2 : km_S), xf_inheritOnce_L13 n (k + 1) r σ = (r2, σ2) → mf_weigh_L66 n (k + 1) μ = μ2 → kr N B x σ2 μ2 ∧ kr_e σ2 μ2 ∧ (r2 = 0 → r = 0 ∧ σ2 = σ ∧ μ2 = μ))
    {r2 : Int32} {σ2 : kx_S} {μ2 : km_S}
    (h1 : (if kI σ 3 j = -1 then xf_inheritOnce_L13 n (k + 1) r σ else if kI σ 12 k ≤ kI σ 12 (kI σ 3 j).toNatClampNeg then xf_inheritOnce_L13 n (k + 1) r σ else xf_inheritOnce_L13 n (k + 1) 1 (sI σ 12 (kI σ 3 j).toNatClampNeg (kI σ 12 k))) = (r2, σ2))
    (h2 : (if mI μ 17 j < 0 then mf_weigh_L66 n (k + 1) μ else if mI μ 22 k ≤ mI μ 22 (mI μ 17 j).toNatClampNeg then mf_weigh_L66 n (k + 1) μ else mf_weigh_L66 n (k + 1) (sM μ 22 (mI μ 17 j).toNatClampNeg (mI μ 22 k))) = μ2) :
    kr N B x σ2 μ2 ∧ kr_e σ2 μ2 ∧ (r2 = 0 → r = 0 ∧ σ2 = σ ∧ μ2 = μ) := by
  obtain ⟨o1, o2⟩ := h.2.1 j hj
  rw [← o1] at h2
  rcases o2 with o2 | ⟨t, ht, o2, o3⟩
  · rw [o2, if_pos (by decide)] at h1
    rw [o2, if_pos (by decide)] at h2
    exact ih r σ μ h he r2 σ2 μ2 h1 h2
  · have hne : ¬ kI σ 10 t = 0 := by rcases o3 with o3 | o3 <;> rw [o3] <;> decide
    have hk0 : ¬ kI σ 10 k = 0 := by rw [hst]; decide
    have hn1 : ¬ nI t = -1 := fun q => by
      have := nI_pos (n := t) (by omega)
      rw [q] at this
      exact this (by decide)
    rw [o2, if_neg hn1, nI_clamp (n := t) (by omega)] at h1
    rw [o2, if_neg (nI_pos (by omega)), nI_clamp (n := t) (by omega), ← he k hk hk0, ← he t ht hne] at h2
    by_cases c : kI σ 12 k ≤ kI σ 12 t
    · rw [if_pos c] at h1 h2
      exact ih r σ μ h he r2 σ2 μ2 h1 h2
    · rw [if_neg c] at h1 h2
      have hK : kr N B x (sI σ 12 t (kI σ 12 k)) (sM μ 22 t (kI σ 12 k)) := kr_fr h (fun f i hf => by rw [kI_sI, if_neg (fun z => hf z.1)]) (fun _ _ => rfl) (fun f i hf => by rw [mI_sM, if_neg (fun z => hf z.1)])
      have hE : kr_e (sI σ 12 t (kI σ 12 k)) (sM μ 22 t (kI σ 12 k)) := by
        intro t2 ht2 hs
        rw [kI_sI, if_neg (by omega)] at hs
        rw [kI_sI, mI_sM]
        by_cases e : t2 = t
        · rw [if_pos ⟨rfl, e⟩, if_pos ⟨rfl, e⟩]
        · rw [if_neg (fun z => e z.2), if_neg (fun z => e z.2)]
          exact he t2 ht2 hs
      obtain ⟨a, b, c2⟩ := ih 1 _ _ hK hE r2 σ2 μ2 h1 h2
      exact ⟨a, b, fun z => absurd (c2 z).1 (by decide)⟩
theorem kr_L66 {N B x : Nat} : ∀ (n k : Nat) (r : Int32) (σ : kx_S) (μ : km_S), n + k = 8 → kr N B x σ μ → kr_e σ μ → ∀ (r2 : Int32) (σ2 : kx_S) (μ2 : km_S), xf_inheritOnce_L13 n k r σ = (r2, σ2) → mf_weigh_L66 n k μ = μ2 → kr N B x σ2 μ2 ∧ kr_e σ2 μ2 ∧ (r2 = 0 → r = 0 ∧ σ2 = σ ∧ μ2 = μ) := by
  intro n
  induction n with
  | zero =>
    intro k r σ μ hnk h he r2 σ2 μ2 h1 h2
    rw [xf_inheritOnce_L13] at h1
    rw [mf_weigh_L66] at h2
    cases h1
    subst h2
    exact ⟨h, he, fun z => ⟨z, rfl, rfl⟩⟩
  | succ n ih =>
    intro k r σ μ hnk h he r2 σ2 μ2 h1 h2
    have hk : k < 8 := by omega
    have T := h.2.2.2.2.2 k hk
    have ih2 := fun (r : Int32) (σ : kx_S) (μ : km_S) => ih (k + 1) r σ μ (by omega)
    rw [xf_inheritOnce_L13, kk_b_eq (xf_heir σ k)] at h1
    rw [mf_weigh_L66] at h2
    have hs2 : ∀ w : Int32, kI σ 16 k = w → ¬ w = 0 → kI σ 10 k = 2 := fun w e hw => by
      by_cases c : kI σ 10 k = 2
      · exact c
      · exact absurd (e.symm.trans (T.2.2.2.1 c)) hw
    by_cases c1 : kI σ 16 k = 11
    · have st := hs2 11 c1 (by decide)
      have m4 : mI μ 4 k = 2 := T.1.1 ▸ st
      have m8 : mI μ 8 k = 11 := T.1.2.1 ▸ c1
      rw [show kx_hv σ k = kI σ 3 1 from if_pos c1] at h1
      rw [if_pos m4, m8, if_pos (by decide : (11 - 10 : Int32) = 1), show ((11 : Int32) - 10).toNatClampNeg = 1 from by decide] at h2
      exact kr_step hk (by decide) h he st ih2 h1 h2
    · by_cases c2 : kI σ 16 k = 12
      · have st := hs2 12 c2 (by decide)
        have m4 : mI μ 4 k = 2 := T.1.1 ▸ st
        have m8 : mI μ 8 k = 12 := T.1.2.1 ▸ c2
        rw [show kx_hv σ k = kI σ 3 2 from (if_neg c1).trans (if_pos c2)] at h1
        rw [if_pos m4, m8, if_neg (by decide : ¬ (12 - 10 : Int32) = 1), if_pos (by decide : (12 - 10 : Int32) = 2), show ((12 : Int32) - 10).toNatClampNeg = 2 from by decide] at h2
        exact kr_step hk (by decide) h he st ih2 h1 h2
      · rw [show kx_hv σ k = -1 from (if_neg c1).trans (if_neg c2), if_pos rfl] at h1
        have d1 : ¬ mI μ 8 k - 10 = 1 := fun z => c1 (by rw [T.1.2.1, kk_s10 z]; decide)
        have d2 : ¬ mI μ 8 k - 10 = 2 := fun z => c2 (by rw [T.1.2.1, kk_s10 z]; decide)
        rw [if_neg d1, if_neg d2] at h2
        have h3 : mf_weigh_L66 n (k + 1) μ = μ2 := by
          by_cases c : mI μ 4 k = 2
          · rw [if_pos c] at h2; exact h2
          · rw [if_neg c] at h2; exact h2
        exact ih2 r σ μ h he r2 σ2 μ2 h1 h3
theorem mf_L58_stay {μ : km_S} (h : mf_weigh_L66 8 0 μ = μ) : ∀ n k, mf_weigh_L58 n k μ = μ := by
  intro n
  induction n with
  | zero => intro k; rfl
  | succ n ih => intro k; rw [mf_weigh_L58, kk_v, h]; exact ih (k + 1)
theorem kr_L58 {N B x : Nat} : ∀ (n k : Nat) (r : Int32) (σ : kx_S) (μ : km_S), kr N B x σ μ → kr_e σ μ → (r = 0 → mf_weigh_L66 8 0 μ = μ) → kr N B x (xf_work_L69 n k r σ) (mf_weigh_L58 n k μ) ∧ kr_e (xf_work_L69 n k r σ) (mf_weigh_L58 n k μ) := by
  intro n
  induction n with
  | zero => intro k r σ μ h he h0; exact ⟨h, he⟩
  | succ n ih =>
    intro k r σ μ h he h0
    by_cases c : r = 0
    · rw [mf_L58_stay (h0 c), xf_work_L69, if_pos c]
      exact ⟨h, he⟩
    · obtain ⟨r1, σ1, e1⟩ : ∃ r1 σ1, xf_inheritOnce σ = (r1, σ1) := ⟨_, _, rfl⟩
      rw [xf_work_L69, if_neg c, kk_b_eq e1, mf_weigh_L58, kk_v]
      obtain ⟨a, b, d⟩ := kr_L66 8 0 0 σ μ rfl h he r1 σ1 _ e1 rfl
      exact ih (k + 1) r1 σ1 _ a b (fun z => by obtain ⟨_, _, e4⟩ := d z; rw [e4, e4])
theorem kr_L2 {N B x : Nat} : ∀ (n k : Nat) (σ : kx_S) (μ : km_S), n + k = 8 → kr N B x σ μ → (∀ t, t < k → ¬ kI σ 10 t = 0 → kI σ 12 t = mI μ 22 t) → kr N B x (xf_work_L10 n k σ) (mf_weigh_L2 n k μ) ∧ kr_e (xf_work_L10 n k σ) (mf_weigh_L2 n k μ) := by
  intro n
  induction n with
  | zero =>
    intro k σ μ hnk h he
    exact kr_L58 8 0 1 σ μ h (fun t ht => he t (by omega)) (fun z => absurd z (by decide))
  | succ n ih =>
    intro k σ μ hnk h he
    have hk : k < 8 := by omega
    have T := h.2.2.2.2.2 k hk
    have go : ∀ vx vm : Int32, (¬ kI σ 10 k = 0 → vx = vm) → kr N B x (xf_work_L10 n (k + 1) (sI σ 12 k vx)) (mf_weigh_L2 n (k + 1) (sM μ 22 k vm)) ∧ kr_e (xf_work_L10 n (k + 1) (sI σ 12 k vx)) (mf_weigh_L2 n (k + 1) (sM μ 22 k vm)) := by
      intro vx vm hv
      refine ih (k + 1) _ _ (by omega) (kr_fr h (fun f i hf => by rw [kI_sI, if_neg (fun z => hf z.1)]) (fun _ _ => rfl) (fun f i hf => by rw [mI_sM, if_neg (fun z => hf z.1)])) (fun t ht hs => ?_)
      rw [kI_sI, if_neg (by omega)] at hs
      rw [kI_sI, mI_sM]
      by_cases e : t = k
      · rw [if_pos ⟨rfl, e⟩, if_pos ⟨rfl, e⟩]
        subst e
        exact hv hs
      · rw [if_neg (fun z => e z.2), if_neg (fun z => e z.2)]
        exact he t (by omega) hs
    rw [xf_work_L10, mf_weigh_L2, ← (h.2.1 3 (by decide)).1, ← h.1.2.1]
    by_cases c : kI σ 3 3 = nI k
    · rw [if_pos c, if_pos c]
      by_cases d : kI σ 1 0 ≤ mI μ 5 k
      · rw [if_pos d]
        exact go _ _ (fun hs => by
          rw [(T.2.1 hs).1, if_neg (Int32.not_lt.mpr d)])
      · rw [if_neg d]
        exact go _ _ (fun hs => by
          rw [(T.2.1 hs).1, if_pos (Int32.not_le.mp d)])
    · rw [if_neg c, if_neg c]
      exact go _ _ (fun hs => (T.2.1 hs).1)
theorem kr_weigh {N B x : Nat} {σ : kx_S} {μ : km_S} (h : kr N B x σ μ) : kr N B x (xf_work σ) (mf_weigh μ) ∧ kr_e (xf_work σ) (mf_weigh μ) := kr_L2 8 0 σ μ rfl h (fun t ht => by omega)
theorem xf_ahead (σ : kx_S) (k t : Nat) : xf_isAheadOf σ k t = (if kI σ 12 t < kI σ 12 k ∨ (kI σ 12 k = kI σ 12 t ∧ kJ σ 0 k < kJ σ 0 t) then 1 else 0, σ) := by
  unfold xf_isAheadOf
  by_cases c1 : kI σ 12 t < kI σ 12 k
  · rw [if_pos c1, if_pos (Or.inl c1)]
  · rw [if_neg c1]
    by_cases c2 : kI σ 12 k = kI σ 12 t
    · rw [if_pos c2]
      by_cases c3 : kJ σ 0 k < kJ σ 0 t
      · rw [if_neg (fun z => absurd ((lg_cmp_ge _ _).mp z) (Int64.not_le.mpr c3)), if_pos (Or.inr ⟨c2, c3⟩)]
      · rw [if_pos ((lg_cmp_ge _ _).mpr (Int64.not_lt.mp c3)), if_neg (fun z => z.elim c1 (fun y => c3 y.2))]
    · rw [if_neg c2, if_neg (fun z => z.elim c1 (fun y => c2 y.1))]
/-- the two answers: none and -1, or a thread and its number -/
def kr_a (o : Option Nat) (r : Int32) (P : Nat → Prop) : Prop := (o = none ∧ r = -1) ∨ ∃ t, t < 8 ∧ o = some t ∧ r = nI t ∧ P t
theorem kr_run_L {N B x : Nat} (hN : N < 2 ^ 30) : ∀ (n k : Nat) (best : Option Nat) (b : Int32) (σ : kx_S) (μ : km_S), n + k = 8 → kr N B x σ μ → kr_e σ μ → kr_a best b (fun t => kI σ 10 t = 1) → ∀ (o : Option Nat) (σ2 : kx_S) (r : Int32) (μ2 : km_S), xf_foremost_L20 1 0 n k best σ = (o, σ2) → mf_running_L8 n k b μ = (r, μ2) → σ2 = σ ∧ μ2 = μ ∧ kr_a o r (fun t => kI σ 10 t = 1) := by
  intro n
  induction n with
  | zero =>
    intro k best b σ μ hnk h he hb o σ2 r μ2 h1 h2
    rw [mf_running_L8] at h2
    cases h2
    rw [xf_foremost_L20] at h1
    cases best with
    | none => rw [kk_o_none] at h1; cases h1; exact ⟨rfl, rfl, hb⟩
    | some t => rw [kk_o_some] at h1; cases h1; exact ⟨rfl, rfl, hb⟩
  | succ n ih =>
    intro k best b σ μ hnk h he hb o σ2 r μ2 h1 h2
    have hk : k < 8 := by omega
    have T := h.2.2.2.2.2 k hk
    have ih2 := fun (best : Option Nat) (b : Int32) => ih (k + 1) best b σ μ (by omega) h he
    rw [xf_foremost_L20] at h1
    rw [mf_running_L8, ← T.1.1] at h2
    by_cases c : kI σ 10 k = 1
    · have on0 : kI σ 16 k = 0 := T.2.2.2.1 (by rw [c]; decide)
      have nk : kr_a (some k) (nI k) (fun t => kI σ 10 t = 1) := Or.inr ⟨k, hk, rfl, rfl, c⟩
      rw [if_pos c] at h2
      rcases hb with ⟨rfl, rfl⟩ | ⟨t, ht, rfl, rfl, hst⟩
      · rw [kk_o_none, if_pos c, if_pos on0] at h1
        rw [if_pos (by decide)] at h2
        exact ih2 _ _ nk o σ2 r μ2 h1 h2
      · have bt : kr_a (some t) (nI t) (fun t => kI σ 10 t = 1) := Or.inr ⟨t, ht, rfl, rfl, hst⟩
        have k0 : ¬ kI σ 10 k = 0 := by rw [c]; decide
        have t0 : ¬ kI σ 10 t = 0 := by rw [hst]; decide
        rw [kk_o_some, if_pos c, if_pos on0, kk_b_eq (xf_ahead σ k t)] at h1
        obtain ⟨a, ha, a1, a2⟩ := T.2.2.2.2.1 c
        obtain ⟨d, hd, d1, d2⟩ := (h.2.2.2.2.2 t ht).2.2.2.2.1 hst
        rw [if_neg (nI_pos (by omega)), nI_clamp (n := t) (by omega), ← he k hk k0, ← he t ht t0, a2, d2] at h2
        rw [a1, d1] at h1
        by_cases e1 : kI σ 12 t < kI σ 12 k
        · rw [if_pos (Or.inl e1), if_neg (by decide)] at h1
          rw [if_pos e1] at h2
          exact ih2 _ _ nk o σ2 r μ2 h1 h2
        · rw [if_neg e1] at h2
          by_cases e2 : kI σ 12 k = kI σ 12 t
          · rw [if_pos e2] at h2
            by_cases e3 : a < d
            · rw [if_pos (Or.inr ⟨e2, (pk_lLT (by omega) (by omega)).mpr e3⟩), if_neg (by decide)] at h1
              rw [if_neg (nI_ge e3 (by omega))] at h2
              exact ih2 _ _ nk o σ2 r μ2 h1 h2
            · rw [if_neg (show ¬ (kI σ 12 t < kI σ 12 k ∨ (kI σ 12 k = kI σ 12 t ∧ lN a < lN d)) from fun z => z.elim e1 (fun y => e3 ((pk_lLT (by omega) (by omega)).mp y.2))), if_pos rfl] at h1
              rw [if_pos (nI_le (by omega) (by omega))] at h2
              exact ih2 _ _ bt o σ2 r μ2 h1 h2
          · rw [if_neg e2] at h2
            rw [if_neg (show ¬ (kI σ 12 t < kI σ 12 k ∨ (kI σ 12 k = kI σ 12 t ∧ lN a < lN d)) from fun z => z.elim e1 (fun y => e2 y.1)), if_pos rfl] at h1
            exact ih2 _ _ bt o σ2 r μ2 h1 h2
    · rw [if_neg c] at h2
      refine ih2 best b hb o σ2 r μ2 ?_ h2
      cases best with
      | none => rw [kk_o_none, if_neg c] at h1; exact h1
      | some t => rw [kk_o_some, if_neg c] at h1; exact h1
theorem kr_fw_L {N B x : Nat} (hN : N < 2 ^ 30) (w : Int32) : ∀ (n k : Nat) (best : Option Nat) (b : Int32) (σ : kx_S) (μ : km_S), n + k = 8 → kr N B x σ μ → kr_e σ μ → kr_a best b (fun t => kI σ 10 t = 2 ∧ kI σ 16 t = w) → ∀ (o : Option Nat) (σ2 : kx_S) (r : Int32) (μ2 : km_S), xf_foremost_L20 2 w n k best σ = (o, σ2) → mf_firstWaiter_L8 w n k b μ = (r, μ2) → σ2 = σ ∧ μ2 = μ ∧ kr_a o r (fun t => kI σ 10 t = 2 ∧ kI σ 16 t = w) := by
  intro n
  induction n with
  | zero =>
    intro k best b σ μ hnk h he hb o σ2 r μ2 h1 h2
    rw [mf_firstWaiter_L8] at h2
    cases h2
    rw [xf_foremost_L20] at h1
    cases best with
    | none => rw [kk_o_none] at h1; cases h1; exact ⟨rfl, rfl, hb⟩
    | some t => rw [kk_o_some] at h1; cases h1; exact ⟨rfl, rfl, hb⟩
  | succ n ih =>
    intro k best b σ μ hnk h he hb o σ2 r μ2 h1 h2
    have hk : k < 8 := by omega
    have T := h.2.2.2.2.2 k hk
    have ih2 := fun (best : Option Nat) (b : Int32) => ih (k + 1) best b σ μ (by omega) h he
    rw [xf_foremost_L20] at h1
    rw [mf_firstWaiter_L8, ← T.1.1, ← T.1.2.1] at h2
    by_cases c : kI σ 10 k = 2
    · rw [if_pos c] at h2
      by_cases on0 : kI σ 16 k = w
      · rw [if_pos on0] at h2
        have nk : kr_a (some k) (nI k) (fun t => kI σ 10 t = 2 ∧ kI σ 16 t = w) := Or.inr ⟨k, hk, rfl, rfl, c, on0⟩
        rcases hb with ⟨rfl, rfl⟩ | ⟨t, ht, rfl, rfl, hst, hon⟩
        · rw [kk_o_none, if_pos c, if_pos on0] at h1
          rw [if_pos (by decide)] at h2
          exact ih2 _ _ nk o σ2 r μ2 h1 h2
        · have bt : kr_a (some t) (nI t) (fun t => kI σ 10 t = 2 ∧ kI σ 16 t = w) := Or.inr ⟨t, ht, rfl, rfl, hst, hon⟩
          have k0 : ¬ kI σ 10 k = 0 := by rw [c]; decide
          have t0 : ¬ kI σ 10 t = 0 := by rw [hst]; decide
          rw [kk_o_some, if_pos c, if_pos on0, kk_b_eq (xf_ahead σ k t)] at h1
          obtain ⟨a, ha, a1, a2⟩ := T.2.2.2.2.2.1 c
          obtain ⟨d, hd, d1, d2⟩ := (h.2.2.2.2.2 t ht).2.2.2.2.2.1 hst
          rw [if_neg (nI_pos (by omega)), nI_clamp (n := t) (by omega), ← he k hk k0, ← he t ht t0, a2, d2] at h2
          rw [a1, d1] at h1
          by_cases e1 : kI σ 12 t < kI σ 12 k
          · rw [if_pos (Or.inl e1), if_neg (by decide)] at h1
            rw [if_pos e1] at h2
            exact ih2 _ _ nk o σ2 r μ2 h1 h2
          · rw [if_neg e1] at h2
            by_cases e2 : kI σ 12 k = kI σ 12 t
            · rw [if_pos e2] at h2
              by_cases e3 : a < d
              · rw [if_pos (Or.inr ⟨e2, (pk_lLT (by omega) (by omega)).mpr e3⟩), if_neg (by decide)] at h1
                rw [if_neg (nI_ge e3 (by omega))] at h2
                exact ih2 _ _ nk o σ2 r μ2 h1 h2
              · rw [if_neg (show ¬ (kI σ 12 t < kI σ 12 k ∨ (kI σ 12 k = kI σ 12 t ∧ lN a < lN d)) from fun z => z.elim e1 (fun y => e3 ((pk_lLT (by omega) (by omega)).mp y.2))), if_pos rfl] at h1
                rw [if_pos (nI_le (by omega) (by omega))] at h2
                exact ih2 _ _ bt o σ2 r μ2 h1 h2
            · rw [if_neg e2] at h2
              rw [if_neg (show ¬ (kI σ 12 t < kI σ 12 k ∨ (kI σ 12 k = kI σ 12 t ∧ lN a < lN d)) from fun z => z.elim e1 (fun y => e2 y.1)), if_pos rfl] at h1
              exact ih2 _ _ bt o σ2 r μ2 h1 h2
      · rw [if_neg on0] at h2
        refine ih2 best b hb o σ2 r μ2 ?_ h2
        cases best with
        | none => rw [kk_o_none, if_pos c, if_neg on0] at h1; exact h1
        | some t => rw [kk_o_some, if_pos c, if_neg on0] at h1; exact h1
    · rw [if_neg c] at h2
      refine ih2 best b hb o σ2 r μ2 ?_ h2
      cases best with
      | none => rw [kk_o_none, if_neg c] at h1; exact h1
      | some t => rw [kk_o_some, if_neg c] at h1; exact h1
theorem kr_run {N B x : Nat} {σ σ2 : kx_S} {μ μ2 : km_S} {o : Option Nat} {r : Int32} (hN : N < 2 ^ 30) (h : kr N B x σ μ) (h1 : xf_runner σ = (o, σ2)) (h2 : mf_running μ = (r, μ2)) : kr N B x σ2 μ2 ∧ kr_e σ2 μ2 ∧ kr_a o r (fun t => kI σ2 10 t = 1) := by
  obtain ⟨a, b⟩ := kr_weigh h
  rw [xf_runner, xf_foremost, kk_v] at h1
  rw [mf_running, kk_v] at h2
  obtain ⟨o3, σ3, e3⟩ : ∃ o3 σ3, xf_foremost_L20 1 0 8 0 none (xf_work σ) = (o3, σ3) := ⟨_, _, rfl⟩
  rw [kk_b_eq e3] at h1
  obtain ⟨p1, p2, p3⟩ := kr_run_L hN 8 0 none (-1) _ _ rfl a b (Or.inl ⟨rfl, rfl⟩) o3 σ3 r μ2 e3 h2
  subst p1; subst p2
  cases o3 with
  | none => rw [kk_o_none] at h1; cases h1; exact ⟨a, b, p3⟩
  | some t => rw [kk_o_some] at h1; cases h1; exact ⟨a, b, p3⟩
theorem kr_fw {N B x : Nat} {σ σ2 : kx_S} {μ μ2 : km_S} {o : Option Nat} {r w : Int32} (hN : N < 2 ^ 30) (h : kr N B x σ μ) (h1 : xf_firstWaiter σ w = (o, σ2)) (h2 : mf_firstWaiter μ w = (r, μ2)) : kr N B x σ2 μ2 ∧ kr_a o r (fun t => kI σ2 10 t = 2 ∧ kI σ2 16 t = w) := by
  obtain ⟨a, b⟩ := kr_weigh h
  rw [xf_firstWaiter, xf_foremost, kk_v] at h1
  rw [mf_firstWaiter, kk_v] at h2
  obtain ⟨o3, σ3, e3⟩ : ∃ o3 σ3, xf_foremost_L20 2 w 8 0 none (xf_work σ) = (o3, σ3) := ⟨_, _, rfl⟩
  rw [kk_b_eq e3] at h1
  obtain ⟨p1, p2, p3⟩ := kr_fw_L hN w 8 0 none (-1) _ _ rfl a b (Or.inl ⟨rfl, rfl⟩) o3 σ3 r μ2 e3 h2
  subst p1; subst p2
  cases o3 with
  | none => rw [kk_o_none] at h1; cases h1; exact ⟨a, p3⟩
  | some t => rw [kk_o_some] at h1; cases h1; exact ⟨a, p3⟩
end
section
/-! the small steps: a thread gets ready, is blocked, starts its turn anew -/
theorem xready_I (σ : kx_S) (t : Nat) (r : Int32) (f i : Nat) : kI (xf_makeReady σ t r) f i = if f = 14 ∧ i = t then 0 else if f = 15 ∧ i = t then r else if f = 16 ∧ i = t then 0 else if f = 10 ∧ i = t then 1 else kI σ f i := by
  simp only [xf_makeReady, kI_sI, kI_sJ]
theorem xready_J (σ : kx_S) (t : Nat) (r : Int32) (f i : Nat) : kJ (xf_makeReady σ t r) f i = if f = 0 ∧ i = t then kJ σ 2 0 + 1 else if f = 2 ∧ i = 0 then kJ σ 2 0 + 1 else if f = 1 ∧ i = t then 1000000000000 else kJ σ f i := by
  simp [xf_makeReady, kJ_sI, kJ_sJ]
theorem xblock_I (σ : kx_S) (t : Nat) (w : Int32) (D : Int64) (f i : Nat) : kI (xf_block σ t w D) f i = if f = 16 ∧ i = t then w else if f = 10 ∧ i = t then 2 else kI σ f i := by
  simp only [xf_block, kI_sI, kI_sJ]
theorem xblock_J (σ : kx_S) (t : Nat) (w : Int32) (D : Int64) (f i : Nat) : kJ (xf_block σ t w D) f i = if f = 0 ∧ i = t then kJ σ 2 0 + 1 else if f = 2 ∧ i = 0 then kJ σ 2 0 + 1 else if f = 1 ∧ i = t then D else kJ σ f i := by
  simp [xf_block, kJ_sI, kJ_sJ]
theorem xstart_I (σ : kx_S) (t f i : Nat) : kI (xf_startTurn σ t) f i = if f = 14 ∧ i = t then 0 else kI σ f i := by
  simp only [xf_startTurn, kI_sI, kI_sJ]
theorem xstart_J (σ : kx_S) (t f i : Nat) : kJ (xf_startTurn σ t) f i = if f = 0 ∧ i = t then kJ σ 2 0 + 1 else if f = 2 ∧ i = 0 then kJ σ 2 0 + 1 else kJ σ f i := by
  simp [xf_startTurn, kJ_sI, kJ_sJ]
theorem mready_c (μ : km_S) {t : Nat} (ht : t < 8) (f i : Nat) : mI (mf_ready μ (nI t)) f i = if f = 7 ∧ i = t then 0 else if f = 6 ∧ i = t then mI μ 3 0 + 1 else if f = 3 ∧ i = 0 then mI μ 3 0 + 1 else if f = 10 ∧ i = t then 0 else if f = 8 ∧ i = t then 0 else if f = 4 ∧ i = t then 1 else mI μ f i := by
  simp [mf_ready, mf_newStamp, kk_b, nI_clamp (n := t) (by omega), mI_sM]
theorem mblock_c (μ : km_S) {t : Nat} (ht : t < 8) (w d : Int32) (f i : Nat) : mI (mf_block μ (nI t) w d) f i = if f = 16 ∧ i = t then 0 else if f = 9 ∧ i = t then mI μ 3 0 + 1 else if f = 3 ∧ i = 0 then mI μ 3 0 + 1 else if f = 10 ∧ i = t then d else if f = 8 ∧ i = t then w else if f = 4 ∧ i = t then 2 else mI μ f i := by
  have e : vp_nar .boolean 0 = 0 := by decide
  simp [mf_block, mf_newStamp, kk_b, nI_clamp (n := t) (by omega), mI_sM, e]
theorem kk_z40 {q : Nat} (hq : q < 2) : (¬ (0 : Int32) = 40 + nI q) ∧ ¬ (0 : Int32) = 50 + nI q := by
  rcases (show q = 0 ∨ q = 1 by omega) with rfl | rfl <;> decide
theorem kk_z10 {m : Nat} (hm : m < 4) : ¬ (0 : Int32) = 10 + nI m := by
  rcases (show m = 0 ∨ m = 1 ∨ m = 2 ∨ m = 3 by omega) with rfl | rfl | rfl | rfl <;> decide
/-- a thread that isn't FREE, or whose base and policy are set with it, gets READY with a result -/
theorem kr_ready0 {N B x : Nat} {σ σ0 : kx_S} {μ μ0 : km_S} {t : Nat} {res : Int32} (h : kr N B x σ μ) (ht : t < 8)
    (hx : ∀ f i, ¬ (10 ≤ f ∧ i = t) → kI σ0 f i = kI σ f i) (hj : ∀ f i, kJ σ0 f i = kJ σ f i) (hm : ∀ f i, ¬ (4 ≤ f ∧ f ≤ 16 ∧ i = t) → mI μ0 f i = mI μ f i)
    (hs : kI σ0 13 t = mI μ0 15 t ∧ (kI σ0 17 t = mI μ0 12 t ∧ vp_in (kI σ0 17 t) 4) ∧ kI σ0 19 t = mI μ0 13 t ∧ kI σ0 20 t = mI μ0 14 t ∧ kI σ0 11 t = mI μ0 5 t ∧ res = mI μ0 11 t) :
    kr (N + 1) B x (xf_makeReady σ0 t res) (mf_ready μ0 (nI t)) := by
  obtain ⟨n, hn, n1, n2⟩ := h.1.2.2.2
  refine kr_up (t := t) h (Nat.le_succ N) (fun f i h1 h2 => ?_) (fun f i h1 h2 => ?_) (fun f i h1 h2 h3 => ?_) ⟨n + 1, by omega, ?_, ?_⟩ ?_ (fun q hq _ => ?_) (Or.inl (Or.inl ?_))
  · rw [xready_I, if_neg (by omega), if_neg (by omega), if_neg (by omega), if_neg (by omega)]; exact hx f i h2
  · rw [xready_J, if_neg (by omega), if_neg (by omega), if_neg (by omega)]; exact hj f i
  · rw [mready_c μ0 ht, if_neg (by omega), if_neg (by omega), if_neg (by omega), if_neg (by omega), if_neg (by omega), if_neg (by omega)]; exact hm f i h3
  · rw [xready_J]; simp [hj, n1, lN_1]
  · rw [mready_c μ0 ht]; simp [hm 3 0 (by omega), n2, nI_1]
  · obtain ⟨s1, s2, s3, s4, s5, s6⟩ := hs
    refine ⟨⟨?_, ?_, ?_, ?_, ?_, ?_, ?_⟩, fun _ => ⟨?_, ?_⟩, Or.inl ⟨?_, ?_⟩, fun _ => ?_, fun _ => ⟨n + 1, by omega, ?_, ?_⟩, fun z => ?_, fun m hm4 z => ?_⟩
    · simp [xready_I, mready_c μ0 ht]
    · simp [xready_I, mready_c μ0 ht]
    · simp [xready_I, mready_c μ0 ht, s1]
    · simp [xready_I, mready_c μ0 ht]
    · exact ⟨by simp [xready_I, mready_c μ0 ht, s2.1], by simp only [xready_I]; simp; exact s2.2⟩
    · simp [xready_I, mready_c μ0 ht, s3]
    · simp [xready_I, mready_c μ0 ht, s4]
    · simp [xready_I, mready_c μ0 ht, s5]
    · simp [xready_I, mready_c μ0 ht, s6]
    · simp [xready_J]
    · simp [mready_c μ0 ht]
    · simp [xready_I]
    · simp [xready_J, hj, n1, lN_1]
    · simp [mready_c μ0 ht, hm 3 0 (by omega), n2, nI_1]
    · simp [xready_I] at z
    · simp [xready_I] at z; exact absurd z (kk_z10 hm4)
  · have e : kI (xf_makeReady σ0 t res) 16 t = 0 := by simp [xready_I]
    rw [e]
    exact ⟨fun z => absurd z (kk_z40 hq).1, fun z => absurd z (kk_z40 hq).2⟩
  · simp [xready_I]
theorem kr_ready {N B x : Nat} {σ : kx_S} {μ : km_S} {t : Nat} {res : Int32} (h : kr N B x σ μ) (ht : t < 8) (hs : ¬ kI σ 10 t = 0) : kr (N + 1) B x (xf_makeReady σ t res) (mf_ready (sM μ 11 t res) (nI t)) := by
  obtain ⟨⟨a1, a2, a3, a4, a5, a6, a7⟩, b, -⟩ := h.2.2.2.2.2 t ht
  refine kr_ready0 h ht (fun _ _ _ => rfl) (fun _ _ => rfl) (fun f i h1 => by rw [mI_sM, if_neg (by omega)]) ⟨?_, ?_, ?_, ?_, ?_, ?_⟩
  · simp [mI_sM, a3]
  · exact ⟨by simp [mI_sM, a5.1], a5.2⟩
  · simp [mI_sM, a6]
  · simp [mI_sM, a7]
  · simp [mI_sM, (b hs).1]
  · simp [mI_sM]
/-- the same, where the result stands there already -/
theorem kr_ready2 {N B x : Nat} {σ : kx_S} {μ : km_S} {t : Nat} {res : Int32} (h : kr N B x σ μ) (ht : t < 8) (hs : ¬ kI σ 10 t = 0) (hr : res = mI μ 11 t) : kr (N + 1) B x (xf_makeReady σ t res) (mf_ready μ (nI t)) := by
  obtain ⟨⟨a1, a2, a3, a4, a5, a6, a7⟩, b, -⟩ := h.2.2.2.2.2 t ht
  exact kr_ready0 h ht (fun _ _ _ => rfl) (fun _ _ => rfl) (fun _ _ _ => rfl) ⟨a3, a5, a6, a7, (b hs).1, hr⟩
/-- a new turn: startTurn of the class is the reference's ready -/
theorem kr_turn {N B x : Nat} {σ : kx_S} {μ : km_S} {t : Nat} (h : kr N B x σ μ) (ht : t < 8) (hs : kI σ 10 t = 1) : kr (N + 1) B x (xf_startTurn σ t) (mf_ready μ (nI t)) := by
  obtain ⟨n, hn, n1, n2⟩ := h.1.2.2.2
  obtain ⟨⟨a1, a2, a3, a4, a5, a6, a7⟩, b, c, d, e, f, g⟩ := h.2.2.2.2.2 t ht
  have hon : kI σ 16 t = 0 := d (by rw [hs]; decide)
  have hdl : kJ σ 1 t = 1000000000000 := by
    rcases c with c | ⟨_, _, _, _, _, c⟩
    · exact c.1
    · rw [hs] at c; exact absurd c (by decide)
  have hb := b (by rw [hs]; decide)
  refine kr_up (t := t) h (Nat.le_succ N) (fun f i h1 h2 => ?_) (fun f i h1 h2 => ?_) (fun f i h1 h2 h3 => ?_) ⟨n + 1, by omega, ?_, ?_⟩ ?_ (fun q hq _ => ?_) (Or.inl (Or.inl ?_))
  · rw [xstart_I, if_neg (by omega)]
  · rw [xstart_J, if_neg (by omega), if_neg (by omega)]
  · rw [mready_c μ ht, if_neg (by omega), if_neg (by omega), if_neg (by omega), if_neg (by omega), if_neg (by omega), if_neg (by omega)]
  · rw [xstart_J]; simp [n1, lN_1]
  · rw [mready_c μ ht]; simp [n2, nI_1]
  · refine ⟨⟨?_, ?_, ?_, ?_, ?_, ?_, ?_⟩, fun _ => ⟨?_, ?_⟩, Or.inl ⟨?_, ?_⟩, fun _ => ?_, fun _ => ⟨n + 1, by omega, ?_, ?_⟩, fun z => ?_, fun m hm4 z => ?_⟩
    · simp [xstart_I, mready_c μ ht, hs]
    · simp [xstart_I, mready_c μ ht, hon]
    · simp [xstart_I, mready_c μ ht, a3]
    · simp [xstart_I, mready_c μ ht]
    · exact ⟨by simp [xstart_I, mready_c μ ht, a5.1], by simp only [xstart_I]; simp; exact a5.2⟩
    · simp [xstart_I, mready_c μ ht, a6]
    · simp [xstart_I, mready_c μ ht, a7]
    · simp [xstart_I, mready_c μ ht, hb.1]
    · simp [xstart_I, mready_c μ ht, hb.2]
    · simp [xstart_J, hdl]
    · simp [mready_c μ ht]
    · simp [xstart_I, hon]
    · simp [xstart_J, n1, lN_1]
    · simp [mready_c μ ht, n2, nI_1]
    · simp [xstart_I, hs] at z
    · simp [xstart_I, hon] at z; exact absurd z (kk_z10 hm4)
  · have e : kI (xf_startTurn σ t) 16 t = 0 := by simp [xstart_I, hon]
    rw [e]
    exact ⟨fun z => absurd z (kk_z40 hq).1, fun z => absurd z (kk_z40 hq).2⟩
  · simp [xstart_I, hs]
/-- what a deadline is on either side -/
def kr_d (D : Int64) (d : Int32) : Prop := (D = 1000000000000 ∧ d = 0) ∨ ∃ n : Nat, 0 < n ∧ n < 2 ^ 30 ∧ D = lN n ∧ d = nI n
/-- a thread is blocked; 'k' says whether the reference marks it as one that takes its mutex again -/
theorem kr_block0 {N B x : Nat} {σ : kx_S} {μ μ2 : km_S} {t : Nat} {w d k : Int32} {D : Int64} (h : kr N B x σ μ) (ht : t < 8) (hs : ¬ kI σ 10 t = 0) (hD : kr_d D d)
    (hμ : ∀ f i, mI μ2 f i = if f = 16 ∧ i = t then k else mI (mf_block μ (nI t) w d) f i)
    (hk : ∀ m, m < 4 → w = 10 + nI m → (k = 0 → kI σ 18 t = 0) ∧ (¬ k = 0 → kI σ 18 t = mI μ 11 t))
    (hq : ∀ q, q < 2 → ¬ q = x → (w = 40 + nI q → kI σ 9 q = 4) ∧ (w = 50 + nI q → kI σ 9 q = 0)) : kr (N + 1) B x (xf_block σ t w D) μ2 := by
  obtain ⟨n, hn, n1, n2⟩ := h.1.2.2.2
  obtain ⟨⟨a1, a2, a3, a4, a5, a6, a7⟩, b, -⟩ := h.2.2.2.2.2 t ht
  have hb := b hs
  refine kr_up (t := t) h (Nat.le_succ N) (fun f i h1 h2 => ?_) (fun f i h1 h2 => ?_) (fun f i h1 h2 h3 => ?_) ⟨n + 1, by omega, ?_, ?_⟩ ?_ (fun q hq2 hqx => ?_) (Or.inl (Or.inr ?_))
  · rw [xblock_I, if_neg (by omega), if_neg (by omega)]
  · rw [xblock_J, if_neg (by omega), if_neg (by omega), if_neg (by omega)]
  · rw [hμ, if_neg (by omega), mblock_c μ ht, if_neg (by omega), if_neg (by omega), if_neg (by omega), if_neg (by omega), if_neg (by omega), if_neg (by omega)]
  · rw [xblock_J]; simp [n1, lN_1]
  · rw [hμ]; simp [mblock_c μ ht, n2, nI_1]
  · refine ⟨⟨?_, ?_, ?_, ?_, ?_, ?_, ?_⟩, fun _ => ⟨?_, ?_⟩, ?_, fun z => ?_, fun z => ?_, fun _ => ⟨n + 1, by omega, ?_, ?_⟩, fun m hm4 z => ?_⟩
    · simp [hμ, xblock_I, mblock_c μ ht]
    · simp [hμ, xblock_I, mblock_c μ ht]
    · simp [hμ, xblock_I, mblock_c μ ht, a3]
    · simp [hμ, xblock_I, mblock_c μ ht, a4]
    · exact ⟨by simp [hμ, xblock_I, mblock_c μ ht, a5.1], by simp only [xblock_I]; simp; exact a5.2⟩
    · simp [hμ, xblock_I, mblock_c μ ht, a6]
    · simp [hμ, xblock_I, mblock_c μ ht, a7]
    · simp [hμ, xblock_I, mblock_c μ ht, hb.1]
    · simp [hμ, xblock_I, mblock_c μ ht, hb.2]
    · rcases hD with ⟨e1, e2⟩ | ⟨d2, p1, p2, p3, p4⟩
      · refine Or.inl ⟨?_, ?_⟩
        · simp [xblock_J, e1]
        · simp [hμ, mblock_c μ ht, e2]
      · refine Or.inr ⟨d2, p1, p2, ?_, ?_, ?_⟩
        · simp [xblock_J, p3]
        · simp [hμ, mblock_c μ ht, p4]
        · simp [xblock_I]
    · simp [xblock_I] at z
    · simp [xblock_I] at z
    · simp [xblock_J, n1, lN_1]
    · simp [hμ, mblock_c μ ht, n2, nI_1]
    · simp [xblock_I] at z
      have e := hk m hm4 z
      simp [hμ, xblock_I, mblock_c μ ht]
      exact e
  · have e : kI (xf_block σ t w D) 16 t = w := by simp [xblock_I]
    rw [e]
    exact hq q hq2 hqx
  · simp [xblock_I]
theorem kr_block {N B x : Nat} {σ : kx_S} {μ : km_S} {t : Nat} {w d : Int32} {D : Int64} (h : kr N B x σ μ) (ht : t < 8) (hs : ¬ kI σ 10 t = 0) (hD : kr_d D d)
    (hk : ∀ m, m < 4 → w = 10 + nI m → kI σ 18 t = 0) (hq : ∀ q, q < 2 → ¬ q = x → (w = 40 + nI q → kI σ 9 q = 4) ∧ (w = 50 + nI q → kI σ 9 q = 0)) : kr (N + 1) B x (xf_block σ t w D) (mf_block μ (nI t) w d) := by
  refine kr_block0 (k := 0) h ht hs hD (fun f i => ?_) (fun m hm e => ⟨fun _ => hk m hm e, fun z => absurd rfl z⟩) hq
  by_cases c : f = 16 ∧ i = t
  · rw [if_pos c, mblock_c μ ht, if_pos c]
  · rw [if_neg c]
end
section
/-! what the class's weighing leaves alone; numbers out of range; a result is set; a mutex is given, taken again -/
theorem xf_L13_fr : ∀ (n k : Nat) (r : Int32) (σ : kx_S) (f i : Nat), (f ≠ 12 → kI (xf_inheritOnce_L13 n k r σ).2 f i = kI σ f i) ∧ kJ (xf_inheritOnce_L13 n k r σ).2 f i = kJ σ f i := by
  intro n
  induction n with
  | zero => intro k r σ f i; exact ⟨fun _ => rfl, rfl⟩
  | succ n ih =>
    intro k r σ f i
    rw [xf_inheritOnce_L13, kk_b_eq (xf_heir σ k)]
    split
    · exact ih _ _ _ _ _
    · split
      · exact ih _ _ _ _ _
      · refine ⟨fun hf => ?_, (ih _ _ _ _ _).2⟩
        rw [(ih _ _ _ _ _).1 hf, kI_sI, if_neg (fun z => hf z.1)]
theorem xf_L69_fr : ∀ (n k : Nat) (r : Int32) (σ : kx_S) (f i : Nat), (f ≠ 12 → kI (xf_work_L69 n k r σ) f i = kI σ f i) ∧ kJ (xf_work_L69 n k r σ) f i = kJ σ f i := by
  intro n
  induction n with
  | zero => intro k r σ f i; exact ⟨fun _ => rfl, rfl⟩
  | succ n ih =>
    intro k r σ f i
    rw [xf_work_L69]
    split
    · exact ⟨fun _ => rfl, rfl⟩
    · rw [kk_b]
      refine ⟨fun hf => ?_, ?_⟩
      · rw [(ih _ _ _ _ _).1 hf]; exact (xf_L13_fr 8 0 0 σ f i).1 hf
      · rw [(ih _ _ _ _ _).2]; exact (xf_L13_fr 8 0 0 σ f i).2
theorem xf_L10_fr : ∀ (n k : Nat) (σ : kx_S) (f i : Nat), (f ≠ 12 → kI (xf_work_L10 n k σ) f i = kI σ f i) ∧ kJ (xf_work_L10 n k σ) f i = kJ σ f i := by
  intro n
  induction n with
  | zero => intro k σ f i; exact xf_L69_fr _ _ _ _ _ _
  | succ n ih =>
    intro k σ f i
    rw [xf_work_L10]
    split
    · exact ⟨fun hf => by rw [(ih _ _ _ _).1 hf, kI_sI, if_neg (fun z => hf z.1)], (ih _ _ _ _).2⟩
    · exact ⟨fun hf => by rw [(ih _ _ _ _).1 hf, kI_sI, if_neg (fun z => hf z.1)], (ih _ _ _ _).2⟩
theorem xf_work_fr (σ : kx_S) (f i : Nat) : (f ≠ 12 → kI (xf_work σ) f i = kI σ f i) ∧ kJ (xf_work σ) f i = kJ σ f i := xf_L10_fr 8 0 σ f i
theorem xf_L20_st (s w : Int32) : ∀ (n k : Nat) (best : Option Nat) (σ : kx_S), (xf_foremost_L20 s w n k best σ).2 = σ := by
  intro n
  induction n with
  | zero => intro k best σ; rw [xf_foremost_L20]; cases best <;> rfl
  | succ n ih =>
    intro k best σ
    rw [xf_foremost_L20]
    cases best with
    | none => rw [kk_o_none]; repeat' split
              all_goals exact ih _ _ _
    | some t => rw [kk_o_some, kk_b_eq (xf_ahead σ k t)]; repeat' split
                all_goals exact ih _ _ _
theorem xf_L20_none (s w : Int32) : ∀ (n k : Nat) (best : Option Nat) (σ : kx_S), n + k = 8 → (xf_foremost_L20 s w n k best σ).1 = none → best = none ∧ ∀ t, k ≤ t → t < 8 → ¬ (kI σ 10 t = s ∧ kI σ 16 t = w) := by
  intro n
  induction n with
  | zero =>
    intro k best σ hnk h
    rw [xf_foremost_L20] at h
    cases best with
    | none => exact ⟨rfl, fun t h1 h2 => by omega⟩
    | some t => cases h
  | succ n ih =>
    intro k best σ hnk h
    rw [xf_foremost_L20] at h
    cases best with
    | none =>
      rw [kk_o_none] at h
      refine ⟨rfl, fun t h1 h2 z => ?_⟩
      by_cases c1 : kI σ 10 k = s
      · rw [if_pos c1] at h
        by_cases c2 : kI σ 16 k = w
        · rw [if_pos c2] at h
          have := (ih _ _ _ (by omega) h).1
          cases this
        · rw [if_neg c2] at h
          by_cases e : t = k
          · subst e; exact c2 z.2
          · exact (ih _ _ _ (by omega) h).2 t (by omega) h2 z
      · rw [if_neg c1] at h
        by_cases e : t = k
        · subst e; exact c1 z.1
        · exact (ih _ _ _ (by omega) h).2 t (by omega) h2 z
    | some t0 =>
      exfalso
      rw [kk_o_some, kk_b_eq (xf_ahead σ k t0)] at h
      have key : ∀ b : Nat, (xf_foremost_L20 s w n (k + 1) (some b) σ).1 = none → False := fun b hb => by
        have := (ih _ _ _ (by omega) hb).1
        cases this
      by_cases c1 : kI σ 10 k = s
      · rw [if_pos c1] at h
        by_cases c2 : kI σ 16 k = w
        · rw [if_pos c2] at h
          by_cases c3 : (if kI σ 12 t0 < kI σ 12 k ∨ (kI σ 12 k = kI σ 12 t0 ∧ kJ σ 0 k < kJ σ 0 t0) then (1 : Int32) else 0) = 0
          · rw [if_pos c3] at h; exact key _ h
          · rw [if_neg c3] at h; exact key _ h
        · rw [if_neg c2] at h; exact key _ h
      · rw [if_neg c1] at h; exact key _ h
theorem xf_fw_eq (σ : kx_S) (w : Int32) : xf_firstWaiter σ w = xf_foremost_L20 2 w 8 0 none (xf_work σ) := by
  rw [xf_firstWaiter, xf_foremost, kk_v]
  obtain ⟨o3, σ3, e3⟩ : ∃ o3 σ3, xf_foremost_L20 2 w 8 0 none (xf_work σ) = (o3, σ3) := ⟨_, _, rfl⟩
  rw [kk_b_eq e3, e3]
  cases o3 <;> rfl
theorem xf_run_eq (σ : kx_S) : xf_runner σ = xf_foremost_L20 1 0 8 0 none (xf_work σ) := by
  rw [xf_runner, xf_foremost, kk_v]
  obtain ⟨o3, σ3, e3⟩ : ∃ o3 σ3, xf_foremost_L20 1 0 8 0 none (xf_work σ) = (o3, σ3) := ⟨_, _, rfl⟩
  rw [kk_b_eq e3, e3]
  cases o3 <;> rfl
theorem xf_fw_st {σ σ2 : kx_S} {w : Int32} {o : Option Nat} (h : xf_firstWaiter σ w = (o, σ2)) : σ2 = xf_work σ := by
  rw [xf_fw_eq] at h
  have := xf_L20_st 2 w 8 0 none (xf_work σ)
  rw [h] at this
  exact this
theorem xf_fw_none {σ σ2 : kx_S} {w : Int32} (h : xf_firstWaiter σ w = (none, σ2)) : ∀ t, t < 8 → ¬ (kI σ2 10 t = 2 ∧ kI σ2 16 t = w) := by
  have e := xf_fw_st h
  rw [xf_fw_eq] at h
  have h2 := (xf_L20_none 2 w 8 0 none (xf_work σ) rfl (by rw [h])).2
  rw [e]
  exact fun t ht => h2 t (Nat.zero_le t) ht
theorem xf_fw_fr {σ σ2 : kx_S} {w : Int32} {o : Option Nat} (h : xf_firstWaiter σ w = (o, σ2)) (f i : Nat) (hf : f ≠ 12) : kI σ2 f i = kI σ f i := by
  rw [xf_fw_st h]; exact (xf_work_fr σ f i).1 hf
theorem kk_lt_iff {x y : Int32} : x < y ↔ x.toInt < y.toInt := Int32.lt_iff_toInt_lt
theorem kk_le_iff {x y : Int32} : x ≤ y ↔ x.toInt ≤ y.toInt := Int32.le_iff_toInt_le
theorem kk_bo (x n : Int32) : xf_isBelow x n = 0 ↔ ¬ mf_out x n = 0 := by
  unfold xf_isBelow mf_out
  by_cases c : x < 0
  · rw [if_pos c, if_pos c]; exact ⟨fun _ => by decide, fun _ => rfl⟩
  · rw [if_neg c, if_neg c]
    by_cases d : n ≤ x
    · rw [if_pos d, if_neg (Int32.not_lt.mpr d)]; exact ⟨fun _ => by decide, fun _ => rfl⟩
    · rw [if_neg d, if_pos (Int32.not_le.mp d)]; exact ⟨fun z => absurd z (by decide), fun z => absurd rfl z⟩
theorem kk_bt (x : Int32) : xf_isTimeout x = 0 ↔ ¬ mf_out x 1001 = 0 := by
  unfold xf_isTimeout mf_out
  by_cases c : x < 0
  · rw [if_pos c, if_pos c]; exact ⟨fun _ => by decide, fun _ => rfl⟩
  · rw [if_neg c, if_neg c]
    have e : (1000 : Int32) < x ↔ ¬ x < 1001 := by
      rw [kk_lt_iff, kk_lt_iff, show (1000 : Int32).toInt = 1000 from by decide, show (1001 : Int32).toInt = 1001 from by decide]
      omega
    by_cases d : (1000 : Int32) < x
    · rw [if_pos d, if_neg (e.mp d)]; exact ⟨fun _ => by decide, fun _ => rfl⟩
    · rw [if_neg d]
      by_cases g : x < 1001
      · rw [if_pos g]; exact ⟨fun z => absurd z (by decide), fun z => absurd rfl z⟩
      · exact absurd (e.mpr g) d
theorem kk_tm {x : Int32} (h : ¬ xf_isTimeout x = 0) : ∃ j : Nat, j ≤ 1000 ∧ x = nI j := by
  unfold xf_isTimeout at h
  by_cases c : x < 0
  · rw [if_pos c] at h; exact absurd rfl h
  · rw [if_neg c] at h
    by_cases d : (1000 : Int32) < x
    · rw [if_pos d] at h; exact absurd rfl h
    · exact nI_of2 (M := 1000) (by decide) c (Int32.not_lt.mp d)
theorem kr_ho {N B x : Nat} {σ : kx_S} {μ : km_S} (h : kr N B x σ μ) (t : Nat) (ht : t < 8) : (kI σ 10 t = 1 ∨ kI σ 10 t = 2) ∨ ∀ m, m < 4 → ¬ kI σ 3 m = nI t := by
  by_cases e1 : kI σ 10 t = 1
  · exact Or.inl (Or.inl e1)
  · by_cases e2 : kI σ 10 t = 2
    · exact Or.inl (Or.inr e2)
    · refine Or.inr (fun m hm4 e3 => ?_)
      rcases (h.2.1 m hm4).2 with c | ⟨t2, c1, c2, c3⟩
      · rw [c] at e3
        have := nI_pos (n := t) (by omega)
        rw [← e3] at this
        exact this (by decide)
      · rw [c2] at e3
        have := (nI_eq (a := t2) (b := t) (by omega) (by omega)).mp e3
        subst this
        rcases c3 with c3 | c3
        · exact e1 c3
        · exact e2 c3
/-- a thread's cells change, not its state nor what it is blocked on -/
theorem kr_th {N B x : Nat} {σ σ' : kx_S} {μ μ' : km_S} {t : Nat} (h : kr N B x σ μ) (ht : t < 8) (hx : ∀ f i, ¬ (10 ≤ f ∧ i = t) → kI σ' f i = kI σ f i) (hj : ∀ f i, kJ σ' f i = kJ σ f i) (hm : ∀ f i, ¬ (4 ≤ f ∧ f ≤ 16 ∧ i = t) → mI μ' f i = mI μ f i)
    (e1 : kI σ' 10 t = kI σ 10 t) (e2 : kI σ' 16 t = kI σ 16 t) (h2 : kr_t N σ' μ' t) : kr N B x σ' μ' := by
  obtain ⟨n, hn, n1, n2⟩ := h.1.2.2.2
  refine kr_up (t := t) h (Nat.le_refl N) (fun f i _ h3 => hx f i h3) (fun f i _ _ => hj f i) (fun f i _ _ h3 => hm f i h3) ⟨n, hn, by rw [hj]; exact n1, by rw [hm 3 0 (by omega)]; exact n2⟩ h2 (fun q hq hqx => ?_) ?_
  · rw [e2]; exact h.2.2.2.2.1 t q ht hq hqx
  · rw [e1]; exact kr_ho h t ht
theorem kr_res {N B x : Nat} {σ : kx_S} {μ : km_S} {t : Nat} (v : Int32) (h : kr N B x σ μ) (ht : t < 8) (hm : ∀ m, m < 4 → ¬ kI σ 16 t = 10 + nI m) : kr N B x (sI σ 15 t v) (sM μ 11 t v) := by
  obtain ⟨⟨a1, a2, a3, a4, a5, a6, a7⟩, b, c, d, e, f, g⟩ := h.2.2.2.2.2 t ht
  refine kr_th h ht (fun f i h1 => by rw [kI_sI, if_neg (by omega)]) (fun _ _ => rfl) (fun f i h1 => by rw [mI_sM, if_neg (by omega)]) (by rw [kI_sI, if_neg (by omega)]) (by rw [kI_sI, if_neg (by omega)]) ⟨⟨?_, ?_, ?_, ?_, ⟨?_, ?_⟩, ?_, ?_⟩, ?_, ?_, ?_, ?_, ?_, ?_⟩
  · simpa [kI_sI, mI_sM] using a1
  · simpa [kI_sI, mI_sM] using a2
  · simpa [kI_sI, mI_sM] using a3
  · simpa [kI_sI, mI_sM] using a4
  · simpa [kI_sI, mI_sM] using a5.1
  · simpa [kI_sI, mI_sM] using a5.2
  · simpa [kI_sI, mI_sM] using a6
  · simpa [kI_sI, mI_sM] using a7
  · intro z; exact ⟨by simpa [kI_sI, mI_sM] using (b (by simpa [kI_sI] using z)).1, by simp [kI_sI, mI_sM]⟩
  · simpa [kI_sI, kJ_sI, mI_sM] using c
  · simpa [kI_sI, mI_sM] using d
  · simpa [kI_sI, kJ_sI, mI_sM] using e
  · simpa [kI_sI, kJ_sI, mI_sM] using f
  · intro m hm4 z; exact absurd (by simpa [kI_sI] using z) (hm m hm4)
/-- the class's note for when the mutex comes -/
theorem kr_rw {N B x : Nat} {σ : kx_S} {μ : km_S} {t : Nat} (v : Int32) (h : kr N B x σ μ) (ht : t < 8) (hm : ∀ m, m < 4 → ¬ kI σ 16 t = 10 + nI m) : kr N B x (sI σ 18 t v) μ := by
  obtain ⟨⟨a1, a2, a3, a4, a5, a6, a7⟩, b, c, d, e, f, g⟩ := h.2.2.2.2.2 t ht
  refine kr_th h ht (fun f i h1 => by rw [kI_sI, if_neg (by omega)]) (fun _ _ => rfl) (fun f i h1 => rfl) (by rw [kI_sI, if_neg (by omega)]) (by rw [kI_sI, if_neg (by omega)]) ⟨⟨?_, ?_, ?_, ?_, ⟨?_, ?_⟩, ?_, ?_⟩, ?_, ?_, ?_, ?_, ?_, ?_⟩
  · simpa [kI_sI, mI_sM] using a1
  · simpa [kI_sI, mI_sM] using a2
  · simpa [kI_sI, mI_sM] using a3
  · simpa [kI_sI, mI_sM] using a4
  · simpa [kI_sI, mI_sM] using a5.1
  · simpa [kI_sI, mI_sM] using a5.2
  · simpa [kI_sI, mI_sM] using a6
  · simpa [kI_sI, mI_sM] using a7
  · simpa [kI_sI, mI_sM] using b
  · simpa [kI_sI, kJ_sI, mI_sM] using c
  · simpa [kI_sI, mI_sM] using d
  · simpa [kI_sI, kJ_sI, mI_sM] using e
  · simpa [kI_sI, kJ_sI, mI_sM] using f
  · intro m hm4 z; exact absurd (by simpa [kI_sI] using z) (hm m hm4)
theorem kr_mind {N B x : Nat} {σ : kx_S} {μ : km_S} {t : Nat} {v : Int32} (h : kr N B x σ μ) (ht : t < 8) (hv : vp_in v 4) : kr N B x (sI σ 17 t v) (sM μ 12 t v) := by
  obtain ⟨⟨a1, a2, a3, a4, a5, a6, a7⟩, b, c, d, e, f, g⟩ := h.2.2.2.2.2 t ht
  refine kr_th h ht (fun f i h1 => by rw [kI_sI, if_neg (by omega)]) (fun _ _ => rfl) (fun f i h1 => by rw [mI_sM, if_neg (by omega)]) (by rw [kI_sI, if_neg (by omega)]) (by rw [kI_sI, if_neg (by omega)]) ⟨⟨?_, ?_, ?_, ?_, ⟨?_, ?_⟩, ?_, ?_⟩, ?_, ?_, ?_, ?_, ?_, ?_⟩
  · simpa [kI_sI, mI_sM] using a1
  · simpa [kI_sI, mI_sM] using a2
  · simpa [kI_sI, mI_sM] using a3
  · simpa [kI_sI, mI_sM] using a4
  · simp [kI_sI, mI_sM]
  · simpa [kI_sI, mI_sM] using hv
  · simpa [kI_sI, mI_sM] using a6
  · simpa [kI_sI, mI_sM] using a7
  · simpa [kI_sI, mI_sM] using b
  · simpa [kI_sI, kJ_sI, mI_sM] using c
  · simpa [kI_sI, mI_sM] using d
  · simpa [kI_sI, kJ_sI, mI_sM] using e
  · simpa [kI_sI, kJ_sI, mI_sM] using f
  · simpa [kI_sI, mI_sM] using g
theorem kr_msg {N B x : Nat} {σ : kx_S} {μ : km_S} {t : Nat} (v w : Int32) (h : kr N B x σ μ) (ht : t < 8) : kr N B x (sI (sI σ 19 t v) 20 t w) (sM (sM μ 13 t v) 14 t w) := by
  obtain ⟨⟨a1, a2, a3, a4, a5, a6, a7⟩, b, c, d, e, f, g⟩ := h.2.2.2.2.2 t ht
  refine kr_th h ht (fun f i h1 => by rw [kI_sI, if_neg (by omega), kI_sI, if_neg (by omega)]) (fun _ _ => rfl) (fun f i h1 => by rw [mI_sM, if_neg (by omega), mI_sM, if_neg (by omega)]) (by rw [kI_sI, if_neg (by omega), kI_sI, if_neg (by omega)]) (by rw [kI_sI, if_neg (by omega), kI_sI, if_neg (by omega)]) ⟨⟨?_, ?_, ?_, ?_, ⟨?_, ?_⟩, ?_, ?_⟩, ?_, ?_, ?_, ?_, ?_, ?_⟩
  · simpa [kI_sI, mI_sM] using a1
  · simpa [kI_sI, mI_sM] using a2
  · simpa [kI_sI, mI_sM] using a3
  · simpa [kI_sI, mI_sM] using a4
  · simpa [kI_sI, mI_sM] using a5.1
  · simpa [kI_sI, mI_sM] using a5.2
  · simp [kI_sI, mI_sM]
  · simp [kI_sI, mI_sM]
  · simpa [kI_sI, mI_sM] using b
  · simpa [kI_sI, kJ_sI, mI_sM] using c
  · simpa [kI_sI, mI_sM] using d
  · simpa [kI_sI, kJ_sI, mI_sM] using e
  · simpa [kI_sI, kJ_sI, mI_sM] using f
  · simpa [kI_sI, mI_sM] using g
theorem kk_nm1 {t : Nat} (ht : t < 8) : ¬ nI t = -1 := fun q => by
  have := nI_pos (n := t) (by omega)
  rw [q] at this
  exact this (by decide)
theorem kr_give {N B x j : Nat} {σ : kx_S} {μ : km_S} (hN : N < 2 ^ 30) (h : kr N B x σ μ) (hj : j < 4) : kr (N + 1) B x (xf_give σ (nI j)) (mf_give μ (nI j)) := by
  have c : (nI j).toNatClampNeg = j := nI_clamp (by omega)
  rw [xf_give, mf_give, c]
  have h0 : kr N B x (sI σ 3 j (-1)) (sM μ 17 j (-1)) := kr_own h (Or.inl rfl)
  obtain ⟨o1, s1, e1⟩ : ∃ o1 s1, xf_firstWaiter (sI σ 3 j (-1)) (10 + nI j) = (o1, s1) := ⟨_, _, rfl⟩
  obtain ⟨r1, u1, e2⟩ : ∃ r1 u1, mf_firstWaiter (sM μ 17 j (-1)) (10 + nI j) = (r1, u1) := ⟨_, _, rfl⟩
  rw [kk_b_eq e1, kk_b_eq e2]
  obtain ⟨h1, ha⟩ := kr_fw hN h0 e1 e2
  rcases ha with ⟨rfl, rfl⟩ | ⟨t, ht, rfl, rfl, hs, hon⟩
  · rw [kk_o_none, if_neg (by decide)]; exact kr_mono (Nat.le_succ N) h1
  · have e10 : kI (sI s1 3 j (nI t)) 10 t = 2 := by rw [kI_sI, if_neg (by omega)]; exact hs
    have n0 : ¬ kI (sI s1 3 j (nI t)) 10 t = 0 := by rw [e10]; decide
    rw [kk_o_some, if_pos (nI_pos' (by omega)), kk_v, xf_makeOwner, c, if_neg (by rw [e10]; decide), kk_v, nI_clamp (n := t) (by omega)]
    have h2 : kr N B x (sI s1 3 j (nI t)) (sM u1 17 j (nI t)) := kr_own h1 (Or.inr ⟨t, ht, rfl, Or.inr hs⟩)
    have g := (h2.2.2.2.2.2 t ht).2.2.2.2.2.2 j hj (by rw [kI_sI, if_neg (by omega)]; exact hon)
    by_cases z : mI (sM u1 17 j (nI t)) 16 t = 0
    · rw [if_pos z, g.1 z, kk_v]; exact kr_ready h2 ht n0
    · rw [if_neg z, kk_v]; exact kr_ready2 h2 ht n0 (g.2 z)
theorem kk_m40 : ∀ j, j < 4 → ∀ q, q < 2 → ¬ 10 + nI j = 40 + nI q ∧ ¬ 10 + nI j = 50 + nI q := by decide
theorem kr_retake {N B x : Nat} {σ : kx_S} {μ : km_S} {t : Nat} (r : Int32) (h : kr N B x σ μ) (ht : t < 8) (hs : kI σ 10 t = 2) (hm : ∀ m, m < 4 → ¬ kI σ 16 t = 10 + nI m) : kr (N + 1) B x (xf_endAwait σ t r) (mf_retake μ (nI t) r) := by
  have T := h.2.2.2.2.2 t ht
  obtain ⟨j, hj, ej⟩ := vp_in_of T.1.2.2.2.2.1.2 (by decide)
  have c : (nI j).toNatClampNeg = j := nI_clamp (by omega)
  have em : mI μ 12 t = nI j := T.1.2.2.2.2.1.1 ▸ ej
  have h1 : kr N B x (sI (sI σ 15 t r) 18 t r) (sM μ 11 t r) := kr_rw r (kr_res r h ht hm) ht (fun m hm4 z => hm m hm4 (by rw [kI_sI, if_neg (by omega)] at z; exact z))
  have e17 : kI (sI (sI σ 15 t r) 18 t r) 17 t = nI j := by rw [kI_sI, if_neg (by omega), kI_sI, if_neg (by omega)]; exact ej
  have e18 : kI (sI (sI σ 15 t r) 18 t r) 18 t = r := by rw [kI_sI, if_pos ⟨rfl, rfl⟩]
  have e10 : kI (sI (sI σ 15 t r) 18 t r) 10 t = 2 := by rw [kI_sI, if_neg (by omega), kI_sI, if_neg (by omega)]; exact hs
  have m11 : mI (sM μ 11 t r) 11 t = r := by rw [mI_sM, if_pos ⟨rfl, rfl⟩]
  rw [xf_endAwait, kk_v, e17, xf_take, c, mf_retake, nI_clamp (n := t) (by omega), em, c]
  obtain ⟨o1, o2⟩ := h1.2.1 j hj
  rw [← o1]
  generalize sI (sI σ 15 t r) 18 t r = σ1 at *
  generalize sM μ 11 t r = μ1 at *
  rcases o2 with o2 | ⟨t2, ht2, o2, o3⟩
  · rw [o2, if_pos rfl, if_neg (by decide), kk_v, kk_v, xf_makeOwner, c]
    have f10 : kI (sI σ1 3 j (nI t)) 10 t = 2 := by rw [kI_sI, if_neg (by omega)]; exact e10
    rw [if_neg (by rw [f10]; decide), kk_v]
    have h2 : kr N B x (sI σ1 3 j (nI t)) (sM μ1 17 j (nI t)) := kr_own h1 (Or.inr ⟨t, ht, rfl, Or.inr e10⟩)
    refine kr_ready2 h2 ht (by rw [f10]; decide) ?_
    rw [kI_sI, if_neg (by omega), e18, mI_sM, if_neg (by omega), m11]
  · rw [o2, if_neg (kk_nm1 ht2), if_pos (nI_pos' (by omega)), kk_v, kk_v]
    refine kr_block0 (k := 1) h1 ht (by rw [e10]; decide) (Or.inl ⟨rfl, rfl⟩) (fun f i => ?_) (fun m hm4 _ => ⟨fun z => absurd z (by decide), fun _ => by rw [e18, m11]⟩) (fun q hq _ => ⟨fun z => absurd z (kk_m40 j hj q hq).1, fun z => absurd z (kk_m40 j hj q hq).2⟩)
    rw [mI_sM, show vp_nar .boolean 1 = 1 from by decide]
end
section
/-! the calls, one by one: the same answer, and the relation is kept -/
def kr_ri (N B : Nat) (x : Int32 × kx_S) (y : Int32 × km_S) : Prop := x.1 = y.1 ∧ kr N B 2 x.2 y.2
def kr_rl (N B : Nat) (x : Int64 × kx_S) (y : Int64 × km_S) : Prop := x.1 = y.1 ∧ kr N B 2 x.2 y.2
theorem kr_ri_mono {N N' B : Nat} {x : Int32 × kx_S} {y : Int32 × km_S} (hN : N ≤ N') (h : kr_ri N B x y) : kr_ri N' B x y := ⟨h.1, kr_mono hN h.2⟩
theorem kr_run_m {N B : Nat} {σ : kx_S} {μ u : km_S} {r : Int32} (h : kr N B 2 σ μ) (e : mf_running μ = (r, u)) : kr N B 2 σ u := kr_fr h (fun _ _ _ => rfl) (fun _ _ => rfl) (fun f i hf => mf_run_fr e f i hf)
theorem kr_on {N B x : Nat} {σ : kx_S} {μ : km_S} {t : Nat} (h : kr N B x σ μ) (ht : t < 8) (hs : kI σ 10 t = 1) : kI σ 16 t = 0 := (h.2.2.2.2.2 t ht).2.2.2.1 (by rw [hs]; decide)
theorem kr_on10 {N B x : Nat} {σ : kx_S} {μ : km_S} {t : Nat} (h : kr N B x σ μ) (ht : t < 8) (hs : kI σ 10 t = 1) : ∀ m, m < 4 → ¬ kI σ 16 t = 10 + nI m := fun m hm z => kk_z10 hm (by rw [← z]; exact (kr_on h ht hs).symm)
theorem kr_pass {N B : Nat} {σ : kx_S} {μ : km_S} (hN : N < 2 ^ 30) (h : kr N B 2 σ μ) : kr_ri (N + 1) B (xf_pass σ) (mf_pass μ) := by
  obtain ⟨o1, s1, e1⟩ : ∃ o1 s1, xf_runner σ = (o1, s1) := ⟨_, _, rfl⟩
  obtain ⟨r1, u1, e2⟩ : ∃ r1 u1, mf_running μ = (r1, u1) := ⟨_, _, rfl⟩
  obtain ⟨h1, -, ha⟩ := kr_run hN h e1 e2
  rw [xf_pass, mf_pass, kk_b_eq e1, kk_b_eq e2]
  rcases ha with ⟨rfl, rfl⟩ | ⟨t, ht, rfl, rfl, hs⟩
  · rw [kk_o_none, if_neg (by decide)]; exact ⟨rfl, kr_mono (Nat.le_succ N) h1⟩
  · rw [kk_o_some, if_pos (nI_pos' (by omega)), kk_v, kk_v]
    exact ⟨rfl, kr_turn h1 ht hs⟩
theorem kr_running {N B : Nat} {σ : kx_S} {μ : km_S} (hN : N < 2 ^ 30) (h : kr N B 2 σ μ) : kr_ri N B (xf_running σ) (mf_running μ) := by
  obtain ⟨o1, s1, e1⟩ : ∃ o1 s1, xf_runner σ = (o1, s1) := ⟨_, _, rfl⟩
  obtain ⟨r1, u1, e2⟩ : ∃ r1 u1, mf_running μ = (r1, u1) := ⟨_, _, rfl⟩
  obtain ⟨h1, -, ha⟩ := kr_run hN h e1 e2
  rw [xf_running, kk_b_eq e1, e2]
  rcases ha with ⟨rfl, rfl⟩ | ⟨t, ht, rfl, rfl, hs⟩
  · rw [kk_o_none]; exact ⟨rfl, h1⟩
  · rw [kk_o_some]; exact ⟨rfl, h1⟩
/-- TAKING by the running thread -/
theorem kr_take {N B j t : Nat} {σ : kx_S} {μ : km_S} (h : kr N B 2 σ μ) (ht : t < 8) (hj : j < 4) (hs : kI σ 10 t = 1) :
    kr_ri (N + 1) B (kk_v (xf_take (sI σ 18 t 0) t (nI j)) (fun s3 => if (kI s3 10 t) = 1 then (0, s3) else (1, s3))) (if 0 ≤ (mI μ 17 j) then kk_v (mf_block μ (nI t) (10 + nI j) 0) (fun s3 => (1, s3)) else (0, sM (sM μ 17 j (nI t)) 11 t 0)) := by
  have c : (nI j).toNatClampNeg = j := nI_clamp (by omega)
  have hon := kr_on10 h ht hs
  have h1 : kr N B 2 (sI σ 18 t 0) μ := kr_rw 0 h ht hon
  have e10 : kI (sI σ 18 t 0) 10 t = 1 := by rw [kI_sI, if_neg (by omega)]; exact hs
  have e18 : kI (sI σ 18 t 0) 18 t = 0 := by rw [kI_sI, if_pos ⟨rfl, rfl⟩]
  have hon1 := kr_on10 h1 ht e10
  generalize sI σ 18 t 0 = σ1 at *
  rw [kk_v, xf_take, c]
  obtain ⟨o1, o2⟩ := h1.2.1 j hj
  rw [← o1]
  rcases o2 with o2 | ⟨t2, ht2, o2, o3⟩
  · rw [o2, if_pos rfl, if_neg (show ¬ (0 : Int32) ≤ -1 by decide), kk_v, xf_makeOwner, c]
    have f10 : kI (sI σ1 3 j (nI t)) 10 t = 1 := by rw [kI_sI, if_neg (by omega)]; exact e10
    have f18 : kI (sI σ1 3 j (nI t)) 18 t = 0 := by rw [kI_sI, if_neg (by omega)]; exact e18
    rw [if_pos f10, f18, if_pos (by rw [kI_sI, if_neg (by omega)]; exact f10)]
    have h2 : kr N B 2 (sI σ1 3 j (nI t)) (sM μ 17 j (nI t)) := kr_own h1 (Or.inr ⟨t, ht, rfl, Or.inl e10⟩)
    exact ⟨rfl, kr_mono (Nat.le_succ N) (kr_res 0 h2 ht (kr_on10 h2 ht f10))⟩
  · rw [o2, if_neg (kk_nm1 ht2), if_pos (nI_pos' (by omega)), kk_v, kk_v, if_neg (by rw [xblock_I]; simp)]
    exact ⟨rfl, kr_block h1 ht (by rw [e10]; decide) (Or.inl ⟨rfl, rfl⟩) (fun _ _ _ => e18) (fun q hq _ => ⟨fun z => absurd z (kk_m40 j hj q hq).1, fun z => absurd z (kk_m40 j hj q hq).2⟩)⟩
theorem kr_lock {N B : Nat} {σ : kx_S} {μ : km_S} (m1 : Int32) (hN : N < 2 ^ 30) (h : kr N B 2 σ μ) : kr_ri (N + 1) B (xf_lock σ m1) (mf_lock μ m1) := by
  obtain ⟨o1, s1, e1⟩ : ∃ o1 s1, xf_runner σ = (o1, s1) := ⟨_, _, rfl⟩
  obtain ⟨r1, u1, e2⟩ : ∃ r1 u1, mf_running μ = (r1, u1) := ⟨_, _, rfl⟩
  obtain ⟨h1, -, ha⟩ := kr_run hN h e1 e2
  rw [xf_lock, mf_lock, kk_b_eq e1, kk_b_eq e2]
  by_cases c : mf_out m1 4 = 0
  · have c2 : ¬ xf_isBelow m1 4 = 0 := fun z => (kk_bo m1 4).mp z c
    rw [if_pos c]
    rcases ha with ⟨rfl, rfl⟩ | ⟨t, ht, rfl, rfl, hs⟩
    · rw [kk_o_none, if_neg c2, if_pos (by decide)]; exact ⟨rfl, kr_mono (Nat.le_succ N) h1⟩
    · obtain ⟨j, hj, rfl⟩ := vp_in_of (km_in (n := 4) (by decide) c) (by decide)
      have cj : (nI j).toNatClampNeg = j := nI_clamp (by omega)
      rw [kk_o_some, if_neg c2, if_neg (nI_pos (by omega)), nI_clamp (n := t) (by omega), cj, ← (h1.2.1 j hj).1, ← h1.1.2.1, ← ((h1.2.2.2.2.2 t ht).2.1 (by rw [hs]; decide)).1]
      have tk := kr_take h1 ht hj hs
      rw [← (h1.2.1 j hj).1] at tk
      by_cases d : kI s1 3 j = nI t
      · rw [if_pos d, if_pos d]; exact ⟨rfl, kr_mono (Nat.le_succ N) h1⟩
      · rw [if_neg d, if_neg d]
        by_cases g : nI j = 3
        · rw [if_pos g, if_pos g]
          by_cases k : kI s1 11 t ≤ kI s1 1 0
          · rw [if_pos k, if_pos k]; exact tk
          · rw [if_neg k, if_neg k]; exact ⟨rfl, kr_mono (Nat.le_succ N) h1⟩
        · rw [if_neg g, if_neg g]; exact tk
  · have c2 : xf_isBelow m1 4 = 0 := (kk_bo m1 4).mpr c
    rw [if_neg c]
    rcases ha with ⟨rfl, rfl⟩ | ⟨t, ht, rfl, rfl, hs⟩
    · rw [kk_o_none, if_pos c2]; exact ⟨rfl, kr_mono (Nat.le_succ N) h1⟩
    · rw [kk_o_some, if_pos c2]; exact ⟨rfl, kr_mono (Nat.le_succ N) h1⟩
theorem kr_unlock {N B : Nat} {σ : kx_S} {μ : km_S} (m1 : Int32) (hN : N < 2 ^ 30) (h : kr N B 2 σ μ) : kr_ri (N + 1) B (xf_unlock σ m1) (mf_unlock μ m1) := by
  obtain ⟨o1, s1, e1⟩ : ∃ o1 s1, xf_runner σ = (o1, s1) := ⟨_, _, rfl⟩
  obtain ⟨r1, u1, e2⟩ : ∃ r1 u1, mf_running μ = (r1, u1) := ⟨_, _, rfl⟩
  obtain ⟨h1, -, ha⟩ := kr_run hN h e1 e2
  rw [xf_unlock, mf_unlock, kk_b_eq e1, kk_b_eq e2]
  by_cases c : mf_out m1 4 = 0
  · have c2 : ¬ xf_isBelow m1 4 = 0 := fun z => (kk_bo m1 4).mp z c
    rw [if_pos c]
    rcases ha with ⟨rfl, rfl⟩ | ⟨t, ht, rfl, rfl, hs⟩
    · rw [kk_o_none, if_neg c2, if_pos (by decide)]; exact ⟨rfl, kr_mono (Nat.le_succ N) h1⟩
    · obtain ⟨j, hj, rfl⟩ := vp_in_of (km_in (n := 4) (by decide) c) (by decide)
      have cj : (nI j).toNatClampNeg = j := nI_clamp (by omega)
      rw [kk_o_some, if_neg c2, if_neg (nI_pos (by omega)), cj, ← (h1.2.1 j hj).1]
      by_cases d : kI s1 3 j = nI t
      · rw [if_pos d, if_pos d, kk_v, kk_v]; exact ⟨rfl, kr_give hN h1 hj⟩
      · rw [if_neg d, if_neg d]; exact ⟨rfl, kr_mono (Nat.le_succ N) h1⟩
  · have c2 : xf_isBelow m1 4 = 0 := (kk_bo m1 4).mpr c
    rw [if_neg c]
    rcases ha with ⟨rfl, rfl⟩ | ⟨t, ht, rfl, rfl, hs⟩
    · rw [kk_o_none, if_pos c2]; exact ⟨rfl, kr_mono (Nat.le_succ N) h1⟩
    · rw [kk_o_some, if_pos c2]; exact ⟨rfl, kr_mono (Nat.le_succ N) h1⟩
/-- a deadline on either side: none for 0, else the time and the number -/
theorem kr_due {N B x j : Nat} {σ : kx_S} {μ : km_S} (hB : B < 2 ^ 29) (h : kr N B x σ μ) (hj : 0 < j) (hj2 : j ≤ 1000) : kr_d ((kI σ 2 0).toInt64 + (nI j).toInt64) (mI μ 2 0 + nI j) := by
  obtain ⟨T, hT, t1, t2⟩ := h.1.2.2.1
  refine Or.inr ⟨T + j, by omega, by omega, ?_, ?_⟩
  · rw [t1, nI_l (by omega), nI_l (by omega), lN_add]
  · rw [t2, nI_add]
theorem kk_c20 : ∀ c, c < 2 → (∀ j, j < 4 → ¬ 20 + nI c = 10 + nI j) ∧ ∀ q, q < 2 → ¬ 20 + nI c = 40 + nI q ∧ ¬ 20 + nI c = 50 + nI q := by decide +kernel
theorem kk_c30 : ∀ c, c < 2 → (∀ j, j < 4 → ¬ 30 + nI c = 10 + nI j) ∧ ∀ q, q < 2 → ¬ 30 + nI c = 40 + nI q ∧ ¬ 30 + nI c = 50 + nI q := by decide +kernel
theorem kk_c60 : (∀ j, j < 4 → ¬ (60 : Int32) = 10 + nI j) ∧ ∀ q, q < 2 → ¬ (60 : Int32) = 40 + nI q ∧ ¬ (60 : Int32) = 50 + nI q := by decide +kernel
theorem kk_c70 : ∀ c, c < 8 → (∀ j, j < 4 → ¬ 70 + nI c = 10 + nI j) ∧ ∀ q, q < 2 → ¬ 70 + nI c = 40 + nI q ∧ ¬ 70 + nI c = 50 + nI q := by decide +kernel
theorem mblock_mind (μ : km_S) {t : Nat} (ht : t < 8) (w d v : Int32) (f i : Nat) : mI (sM (mf_block μ (nI t) w d) 12 t v) f i = mI (mf_block (sM μ 12 t v) (nI t) w d) f i := by
  rw [mI_sM, mblock_c μ ht, mblock_c _ ht]
  by_cases c : f = 12 ∧ i = t
  · obtain ⟨rfl, rfl⟩ := c
    simp [mI_sM]
  · rw [if_neg c]
    simp [mI_sM, c]
theorem kr_aw {N B t c j : Nat} {σ : kx_S} {μ : km_S} {D : Int64} {d : Int32} (hN : N + 1 < 2 ^ 30) (h : kr N B 2 σ μ) (ht : t < 8) (hc : c < 2) (hj : j < 4) (hs : kI σ 10 t = 1) (hD : kr_d D d) : kr (N + 2) B 2 (xf_give (xf_block (sI σ 17 t (nI j)) t (20 + nI c) D) (nI j)) (mf_give (sM (mf_block μ (nI t) (20 + nI c) d) 12 t (nI j)) (nI j)) := by
  have h1 : kr N B 2 (sI σ 17 t (nI j)) (sM μ 12 t (nI j)) := kr_mind h ht (vp_in_nI hj (by decide))
  have h2 : kr (N + 1) B 2 (xf_block (sI σ 17 t (nI j)) t (20 + nI c) D) (mf_block (sM μ 12 t (nI j)) (nI t) (20 + nI c) d) := kr_block h1 ht (by rw [kI_sI, if_neg (by omega), hs]; decide) hD (fun m hm z => absurd z ((kk_c20 c hc).1 m hm)) (fun q hq _ => ⟨fun z => absurd z ((kk_c20 c hc).2 q hq).1, fun z => absurd z ((kk_c20 c hc).2 q hq).2⟩)
  exact kr_give hN (kr_fr h2 (fun _ _ _ => rfl) (fun _ _ => rfl) (fun f i _ => mblock_mind μ ht _ _ _ f i)) hj
theorem kr_await {N B : Nat} {σ : kx_S} {μ : km_S} (cc1 m1 n1 : Int32) (hN : N + 1 < 2 ^ 30) (hB : B < 2 ^ 29) (h : kr N B 2 σ μ) : kr_ri (N + 2) B (xf_await σ cc1 m1 n1) (mf_await μ cc1 m1 n1) := by
  obtain ⟨o1, s1, e1⟩ : ∃ o1 s1, xf_runner σ = (o1, s1) := ⟨_, _, rfl⟩
  obtain ⟨r1, u1, e2⟩ : ∃ r1 u1, mf_running μ = (r1, u1) := ⟨_, _, rfl⟩
  obtain ⟨h1, -, ha⟩ := kr_run (by omega) h e1 e2
  have hm := kr_run_m h e2
  rw [xf_await, mf_await, kk_b_eq e1, kk_b_eq e2]
  by_cases c : mf_out cc1 2 = 0
  · rw [if_neg (fun z => (kk_bo cc1 2).mp z c), if_pos c]
    by_cases d : mf_out m1 4 = 0
    · rw [if_neg (fun z => (kk_bo m1 4).mp z d), if_pos d]
      by_cases g : mf_out n1 1001 = 0
      · have g2 : ¬ xf_isTimeout n1 = 0 := fun z => (kk_bt n1).mp z g
        rw [if_neg g2, if_pos g]
        rcases ha with ⟨rfl, rfl⟩ | ⟨t, ht, rfl, rfl, hs⟩
        · rw [kk_o_none, if_pos (by decide)]; exact ⟨rfl, kr_mono (by omega) h1⟩
        · obtain ⟨j, hj, rfl⟩ := vp_in_of (km_in (n := 4) (by decide) d) (by decide)
          obtain ⟨c0, hc0, rfl⟩ := vp_in_of (km_in (n := 2) (by decide) c) (by decide)
          have cj : (nI j).toNatClampNeg = j := nI_clamp (by omega)
          rw [kk_o_some, if_neg (nI_pos (by omega)), cj, nI_clamp (n := t) (by omega), ← (h1.2.1 j hj).1]
          by_cases k : kI s1 3 j = nI t
          · rw [if_pos k, if_pos k]
            obtain ⟨n, hn, rfl⟩ := kk_tm g2
            rw [xf_deadlineAfter]
            by_cases z : nI n = 0
            · rw [if_pos z, if_pos z, kk_b_eq rfl, kk_v, kk_v, kk_v, kk_v]
              exact ⟨rfl, kr_aw hN h1 ht hc0 hj hs (Or.inl ⟨rfl, rfl⟩)⟩
            · have hn0 : 0 < n := by
                rcases Nat.eq_zero_or_pos n with q | q
                · subst q; exact absurd rfl z
                · exact q
              rw [if_neg z, if_neg z, kk_b_eq rfl, kk_v, kk_v, kk_v, kk_v]
              refine ⟨rfl, kr_aw hN h1 ht hc0 hj hs ?_⟩
              rw [kI_sI, if_neg (by omega)]
              exact kr_due hB h1 hn0 hn
          · rw [if_neg k, if_neg k]; exact ⟨rfl, kr_mono (by omega) h1⟩
      · rw [if_pos ((kk_bt n1).mpr g), if_neg g]; exact ⟨rfl, kr_mono (by omega) hm⟩
    · rw [if_pos ((kk_bo m1 4).mpr d), if_neg d]; exact ⟨rfl, kr_mono (by omega) hm⟩
  · rw [if_pos ((kk_bo cc1 2).mpr c), if_neg c]; exact ⟨rfl, kr_mono (by omega) hm⟩
theorem kr_sig_L {B c : Nat} (hc : c < 2) (all : Int32) : ∀ (n k N : Nat) (w : Int32) (σ : kx_S) (μ : km_S), N + n < 2 ^ 30 → kr N B 2 σ μ → kr_ri (N + n) B (xf_signal_L27 (nI c) all n k w σ) (mf_signal_L16 (nI c) all n k w μ) := by
  intro n
  induction n with
  | zero => intro k N w σ μ hN h; exact ⟨rfl, h⟩
  | succ n ih =>
    intro k N w σ μ hN h
    obtain ⟨o1, s1, e1⟩ : ∃ o1 s1, xf_firstWaiter σ (20 + nI c) = (o1, s1) := ⟨_, _, rfl⟩
    obtain ⟨r1, u1, e2⟩ : ∃ r1 u1, mf_firstWaiter μ (20 + nI c) = (r1, u1) := ⟨_, _, rfl⟩
    obtain ⟨h1, ha⟩ := kr_fw (by omega) h e1 e2
    rw [xf_signal_L27, mf_signal_L16, kk_b_eq e1, kk_b_eq e2]
    rcases ha with ⟨rfl, rfl⟩ | ⟨t, ht, rfl, rfl, hs, hon⟩
    · rw [kk_o_none, if_neg (by decide)]; exact ⟨rfl, kr_mono (by omega) h1⟩
    · rw [kk_o_some, if_pos (nI_pos' (by omega)), kk_v, kk_v]
      have h2 := kr_retake 0 h1 ht hs (fun m hm z => (kk_c20 c hc).1 m hm (by rw [← hon]; exact z))
      have h3 := ih (k + 1) (N + 1) (w + 1) _ _ (by omega) h2
      rw [show N + (n + 1) = N + 1 + n by omega]
      exact h3
theorem kr_signal {N B : Nat} {σ : kx_S} {μ : km_S} (cc1 all : Int32) (hN : N + 8 < 2 ^ 30) (h : kr N B 2 σ μ) : kr_ri (N + 8) B (xf_signal σ cc1 all) (mf_signal μ cc1 all) := by
  rw [xf_signal, mf_signal]
  by_cases c : mf_out cc1 2 = 0
  · rw [if_neg (fun z => (kk_bo cc1 2).mp z c), if_pos c]
    obtain ⟨c0, hc0, rfl⟩ := vp_in_of (km_in (n := 2) (by decide) c) (by decide)
    by_cases a : all = 0
    · rw [if_pos a, if_pos a]
      obtain ⟨o1, s1, e1⟩ : ∃ o1 s1, xf_firstWaiter σ (20 + nI c0) = (o1, s1) := ⟨_, _, rfl⟩
      obtain ⟨r1, u1, e2⟩ : ∃ r1 u1, mf_firstWaiter μ (20 + nI c0) = (r1, u1) := ⟨_, _, rfl⟩
      obtain ⟨h1, ha⟩ := kr_fw (by omega) h e1 e2
      rw [kk_b_eq e1, kk_b_eq e2]
      rcases ha with ⟨rfl, rfl⟩ | ⟨t, ht, rfl, rfl, hs, hon⟩
      · rw [kk_o_none, if_neg (by decide)]; exact ⟨rfl, kr_mono (by omega) h1⟩
      · rw [kk_o_some, if_pos (nI_pos' (by omega)), kk_v, kk_v]
        exact ⟨rfl, kr_mono (by omega) (kr_retake 0 h1 ht hs (fun m hm z => (kk_c20 c0 hc0).1 m hm (by rw [← hon]; exact z)))⟩
    · rw [if_neg a, if_neg a]
      exact kr_sig_L hc0 all 8 0 N 0 σ μ (by omega) h
  · rw [if_pos ((kk_bo cc1 2).mpr c), if_neg c]; exact ⟨rfl, kr_mono (by omega) h⟩
end
section
/-! spawn, priority, down, post, sleep, join, exit, owner, count, tell -/
theorem kk_pr (b : Int32) : xf_isPriority b = 0 ↔ b < 1 ∨ 31 < b := by
  unfold xf_isPriority
  by_cases c : b < 1
  · rw [if_pos c]; exact ⟨fun _ => Or.inl c, fun _ => rfl⟩
  · rw [if_neg c]
    by_cases d : 31 < b
    · rw [if_pos d]; exact ⟨fun _ => Or.inr d, fun _ => rfl⟩
    · rw [if_neg d]; exact ⟨fun z => absurd z (by decide), fun z => z.elim (fun y => absurd y c) (fun y => absurd y d)⟩
theorem kr_spawn_L {N B : Nat} {σ : kx_S} {μ : km_S} (base sl : Int32) (hsl : sl = 0 ∨ sl = 1) (h : kr N B 2 σ μ) : ∀ n k, n + k = 8 →
    kr_ri (N + 1) B (kk_b (xf_leastFree_L10 n k σ) (fun o1 s1 => kk_o o1 ((-1), s1) (fun t1 => kk_v (xf_makeReady (sI (sI s1 11 t1 base) 13 t1 sl) t1 0) (fun s2 => (nI t1, s2))))) (mf_spawn_L15 base sl n k μ) := by
  intro n
  induction n with
  | zero => intro k hnk; exact ⟨rfl, kr_mono (Nat.le_succ N) h⟩
  | succ n ih =>
    intro k hnk
    have hk : k < 8 := by omega
    have T := h.2.2.2.2.2 k hk
    rw [xf_leastFree_L10, mf_spawn_L15, ← T.1.1]
    by_cases c : kI σ 10 k = 0
    · rw [if_pos c, if_pos c, kk_b_eq rfl, kk_o_some, kk_v, kk_v]
      refine ⟨rfl, kr_ready0 h hk (fun f i h1 => by rw [kI_sI, if_neg (by omega), kI_sI, if_neg (by omega)]) (fun _ _ => rfl) (fun f i h1 => by rw [mI_sM, if_neg (by omega), mI_sM, if_neg (by omega), mI_sM, if_neg (by omega)]) ⟨?_, ⟨?_, ?_⟩, ?_, ?_, ?_, ?_⟩⟩
      · have e : vp_nar .boolean sl = sl := by rcases hsl with rfl | rfl <;> decide
        simp [kI_sI, mI_sM, e]
      · simpa [kI_sI, mI_sM] using T.1.2.2.2.2.1.1
      · simpa [kI_sI, mI_sM] using T.1.2.2.2.2.1.2
      · simpa [kI_sI, mI_sM] using T.1.2.2.2.2.2.1
      · simpa [kI_sI, mI_sM] using T.1.2.2.2.2.2.2
      · simp [kI_sI, mI_sM]
      · simp [mI_sM]
    · rw [if_neg c, if_neg c]; exact ih (k + 1) (by omega)
theorem kr_spawn {N B : Nat} {σ : kx_S} {μ : km_S} (base sl : Int32) (hsl : sl = 0 ∨ sl = 1) (h : kr N B 2 σ μ) : kr_ri (N + 1) B (xf_spawn σ base sl) (mf_spawn μ base sl) := by
  rw [xf_spawn, mf_spawn]
  by_cases c : base < 1
  · rw [if_pos ((kk_pr base).mpr (Or.inl c)), if_pos c]; exact ⟨rfl, kr_mono (Nat.le_succ N) h⟩
  · rw [if_neg c]
    by_cases d : base ≤ 31
    · rw [if_pos d, if_neg (fun z => ((kk_pr base).mp z).elim c (fun y => Int32.not_lt.mpr d y))]
      exact kr_spawn_L base sl hsl h 8 0 rfl
    · rw [if_neg d, if_pos ((kk_pr base).mpr (Or.inr (Int32.not_le.mp d)))]; exact ⟨rfl, kr_mono (Nat.le_succ N) h⟩
theorem kr_base {N B x : Nat} {σ : kx_S} {μ : km_S} {t : Nat} (v : Int32) (h : kr N B x σ μ) (ht : t < 8) : kr N B x (sI σ 11 t v) (sM μ 5 t v) := by
  obtain ⟨⟨a1, a2, a3, a4, a5, a6, a7⟩, b, c, d, e, f, g⟩ := h.2.2.2.2.2 t ht
  refine kr_th h ht (fun f i h1 => by rw [kI_sI, if_neg (by omega)]) (fun _ _ => rfl) (fun f i h1 => by rw [mI_sM, if_neg (by omega)]) (by rw [kI_sI, if_neg (by omega)]) (by rw [kI_sI, if_neg (by omega)]) ⟨⟨?_, ?_, ?_, ?_, ⟨?_, ?_⟩, ?_, ?_⟩, ?_, ?_, ?_, ?_, ?_, ?_⟩
  · simpa [kI_sI, mI_sM] using a1
  · simpa [kI_sI, mI_sM] using a2
  · simpa [kI_sI, mI_sM] using a3
  · simpa [kI_sI, mI_sM] using a4
  · simpa [kI_sI, mI_sM] using a5.1
  · simpa [kI_sI, mI_sM] using a5.2
  · simpa [kI_sI, mI_sM] using a6
  · simpa [kI_sI, mI_sM] using a7
  · intro z; exact ⟨by simp [kI_sI, mI_sM], by simpa [kI_sI, mI_sM] using (b (by simpa [kI_sI] using z)).2⟩
  · simpa [kI_sI, kJ_sI, mI_sM] using c
  · simpa [kI_sI, mI_sM] using d
  · simpa [kI_sI, kJ_sI, mI_sM] using e
  · simpa [kI_sI, kJ_sI, mI_sM] using f
  · simpa [kI_sI, mI_sM] using g
/-- a READY thread gets a new stamp, nothing else -/
theorem kr_stamp {N B : Nat} {σ : kx_S} {μ : km_S} {t : Nat} (h : kr N B 2 σ μ) (ht : t < 8) (hs : kI σ 10 t = 1) : kr (N + 1) B 2 (sJ (sJ σ 2 0 (kJ σ 2 0 + 1)) 0 t (kJ σ 2 0 + 1)) (sM (sM μ 3 0 (mI μ 3 0 + 1)) 6 t (mI (sM μ 3 0 (mI μ 3 0 + 1)) 3 0)) := by
  obtain ⟨n, hn, n1, n2⟩ := h.1.2.2.2
  obtain ⟨⟨a1, a2, a3, a4, a5, a6, a7⟩, b, c, d, e, f, g⟩ := h.2.2.2.2.2 t ht
  have hon : kI σ 16 t = 0 := d (by rw [hs]; decide)
  refine kr_up (t := t) h (Nat.le_succ N) (fun f i h1 h2 => rfl) (fun f i h1 h2 => ?_) (fun f i h1 h2 h3 => ?_) ⟨n + 1, by omega, ?_, ?_⟩ ⟨⟨?_, ?_, ?_, ?_, ⟨?_, ?_⟩, ?_, ?_⟩, ?_, ?_, ?_, ?_, ?_, ?_⟩ (fun q hq hqx => ?_) (Or.inl (Or.inl hs))
  · rw [kJ_sJ, if_neg (by omega), kJ_sJ, if_neg (by omega)]
  · rw [mI_sM, if_neg (by omega), mI_sM, if_neg (by omega)]
  · simp [kJ_sJ, n1, lN_1]
  · simp [mI_sM, n2, nI_1]
  · simpa [kI_sJ, mI_sM] using a1
  · simpa [kI_sJ, mI_sM] using a2
  · simpa [kI_sJ, mI_sM] using a3
  · simpa [kI_sJ, mI_sM] using a4
  · simpa [kI_sJ, mI_sM] using a5.1
  · simpa [kI_sJ, mI_sM] using a5.2
  · simpa [kI_sJ, mI_sM] using a6
  · simpa [kI_sJ, mI_sM] using a7
  · simpa [kI_sJ, mI_sM] using b
  · simpa [kI_sJ, kJ_sJ, mI_sM] using c
  · simpa [kI_sJ, mI_sM] using d
  · intro _; exact ⟨n + 1, by omega, by simp [kJ_sJ, n1, lN_1], by simp [mI_sM, n2, nI_1]⟩
  · intro z; rw [kI_sJ, kI_sJ, hs] at z; exact absurd z (by decide)
  · simpa [kI_sJ, mI_sM] using g
  · exact h.2.2.2.2.1 t q ht hq hqx
theorem kr_prio1 {N B : Nat} {σ : kx_S} {μ : km_S} {t : Nat} (base : Int32) (h : kr N B 2 σ μ) (ht : t < 8) :
    kr_ri (N + 1) B (if (kI (sI σ 11 t base) 10 t) = 1 then (0, sJ (sJ (sI σ 11 t base) 2 0 ((kJ (sI σ 11 t base) 2 0) + 1)) 0 t ((kJ (sI σ 11 t base) 2 0) + 1)) else (0, sI σ 11 t base)) (if (mI (sM μ 5 t base) 4 t) = 1 then kk_b (mf_newStamp (sM μ 5 t base)) (fun r2 s2 => (0, sM s2 6 t r2)) else (0, sM μ 5 t base)) := by
  have h1 := kr_base base h ht
  have e : kI (sI σ 11 t base) 10 t = mI (sM μ 5 t base) 4 t := (h1.2.2.2.2.2 t ht).1.1
  rw [← e]
  by_cases c : kI (sI σ 11 t base) 10 t = 1
  · rw [if_pos c, if_pos c, mf_newStamp, kk_b_eq rfl]
    exact ⟨rfl, kr_stamp h1 ht c⟩
  · rw [if_neg c, if_neg c]; exact ⟨rfl, kr_mono (Nat.le_succ N) h1⟩
theorem kr_priority {N B : Nat} {σ : kx_S} {μ : km_S} (thread base : Int32) (h : kr N B 2 σ μ) : kr_ri (N + 1) B (xf_priority σ thread base) (mf_priority μ thread base) := by
  have no : kr_ri (N + 1) B ((-1 : Int32), σ) ((-1 : Int32), μ) := ⟨rfl, kr_mono (Nat.le_succ N) h⟩
  rw [xf_priority, mf_priority]
  by_cases c : mf_out thread 8 = 0
  · rw [if_neg (fun z => (kk_bo thread 8).mp z c), if_pos c]
    obtain ⟨t, ht, rfl⟩ := vp_in_of (km_in (n := 8) (by decide) c) (by decide)
    have T := h.2.2.2.2.2 t ht
    rw [nI_clamp (n := t) (by omega), ← T.1.1, ← (h.2.1 3 (by decide)).1, ← h.1.2.1]
    by_cases d : base < 1
    · rw [if_pos ((kk_pr base).mpr (Or.inl d)), if_pos d]; exact no
    · rw [if_neg d]
      by_cases g : 31 < base
      · rw [if_pos ((kk_pr base).mpr (Or.inr g)), if_pos g]; exact no
      · rw [if_neg (fun z => ((kk_pr base).mp z).elim d g), if_neg g]
        by_cases k : kI σ 10 t = 0
        · rw [if_pos k, if_pos k]; exact no
        · rw [if_neg k, if_neg k]
          by_cases l : kI σ 10 t = 3
          · rw [if_pos l, if_pos l]; exact no
          · rw [if_neg l, if_neg l]
            by_cases m : kI σ 3 3 = nI t
            · rw [if_pos m, if_pos m]
              by_cases n : base ≤ kI σ 1 0
              · rw [if_pos n, if_pos n]; exact kr_prio1 base h ht
              · rw [if_neg n, if_neg n]; exact no
            · rw [if_neg m, if_neg m]; exact kr_prio1 base h ht
  · rw [if_pos ((kk_bo thread 8).mpr c), if_neg c]; exact no
theorem kr_val {N B x s j : Nat} {σ : kx_S} {μ : km_S} {v : Int32} (h : kr N B x σ μ) (hv : v = nI j) (hj : j ≤ 99) : kr N B x (sI σ 4 s v) (sM μ 18 s v) := by
  obtain ⟨g, o, vv, q, b, th⟩ := h
  refine ⟨g, o, fun s2 hs2 => ?_, fun q2 hq2 => ?_, b, fun t ht => kr_t_fr (Nat.le_refl N) (fun f h1 _ => by rw [kI_sI, if_neg (by omega)]) (fun _ _ => rfl) (fun f h1 h2 => by rw [mI_sM, if_neg (by omega)]) (th t ht)⟩
  · rw [kI_sI, mI_sM]
    by_cases e : s2 = s
    · rw [if_pos ⟨rfl, e⟩, if_pos ⟨rfl, e⟩]
      exact ⟨rfl, j, hj, hv⟩
    · rw [if_neg (fun z => e z.2), if_neg (fun z => e z.2)]
      exact vv s2 hs2
  · obtain ⟨j, j1, j2, j3, j4⟩ := q q2 hq2
    refine ⟨j, j1, j2, j3, fun i hi => ?_⟩
    rw [kI_sI, if_neg (by omega), kI_sI, if_neg (by omega)]
    exact j4 i hi
theorem kr_down {N B : Nat} {σ : kx_S} {μ : km_S} (sem n1 : Int32) (hN : N < 2 ^ 30) (hB : B < 2 ^ 29) (h : kr N B 2 σ μ) : kr_ri (N + 1) B (xf_down σ sem n1) (mf_down μ sem n1) := by
  obtain ⟨o1, s1, e1⟩ : ∃ o1 s1, xf_runner σ = (o1, s1) := ⟨_, _, rfl⟩
  obtain ⟨r1, u1, e2⟩ : ∃ r1 u1, mf_running μ = (r1, u1) := ⟨_, _, rfl⟩
  obtain ⟨h1, -, ha⟩ := kr_run hN h e1 e2
  have no : kr_ri (N + 1) B ((-1 : Int32), s1) ((-1 : Int32), u1) := ⟨rfl, kr_mono (Nat.le_succ N) h1⟩
  rw [xf_down, mf_down, kk_b_eq e1, kk_b_eq e2]
  by_cases c : mf_out sem 2 = 0
  · have c2 : ¬ xf_isBelow sem 2 = 0 := fun z => (kk_bo sem 2).mp z c
    rw [if_pos c]
    by_cases d : mf_out n1 1001 = 0
    · have d2 : ¬ xf_isTimeout n1 = 0 := fun z => (kk_bt n1).mp z d
      rw [if_pos d]
      rcases ha with ⟨rfl, rfl⟩ | ⟨t, ht, rfl, rfl, hs⟩
      · rw [kk_o_none, if_neg c2, if_neg d2, if_neg (by decide)]; exact no
      · obtain ⟨s, hs2, rfl⟩ := vp_in_of (km_in (n := 2) (by decide) c) (by decide)
        obtain ⟨v1, j, hj, v2⟩ := h1.2.2.1 s hs2
        rw [kk_o_some, if_neg c2, if_neg d2, if_pos (nI_pos' (by omega)), nI_clamp (n := s) (by omega), nI_clamp (n := t) (by omega), ← v1, v2]
        have n0 : ¬ kI s1 10 t = 0 := by rw [hs]; decide
        have bl : ∀ (D : Int64) (d : Int32), kr_d D d → kr (N + 1) B 2 (xf_block s1 t (30 + nI s) D) (mf_block u1 (nI t) (30 + nI s) d) := fun D d hd => kr_block h1 ht n0 hd (fun m hm z => absurd z ((kk_c30 s hs2).1 m hm)) (fun q hq _ => ⟨fun z => absurd z ((kk_c30 s hs2).2 q hq).1, fun z => absurd z ((kk_c30 s hs2).2 q hq).2⟩)
        rcases Nat.eq_zero_or_pos j with rfl | hj0
        · rw [if_pos (by decide), if_pos (by decide), xf_deadlineAfter]
          obtain ⟨n, hn, rfl⟩ := kk_tm d2
          by_cases z : nI n = 0
          · rw [if_pos z, if_pos z, kk_b_eq rfl, kk_v, kk_v]
            exact ⟨rfl, bl _ _ (Or.inl ⟨rfl, rfl⟩)⟩
          · have hn0 : 0 < n := by
              rcases Nat.eq_zero_or_pos n with q | q
              · subst q; exact absurd rfl z
              · exact q
            rw [if_neg z, if_neg z, kk_b_eq rfl, kk_v, kk_v]
            exact ⟨rfl, bl _ _ (kr_due hB h1 hn0 hn)⟩
        · rw [if_neg (nI_ne0 hj0 (by omega)), if_neg (nI_nle hj0 (by omega))]
          have h2 : kr N B 2 (sI s1 4 s (nI j - 1)) (sM u1 18 s (nI j - 1)) := kr_val (j := j - 1) h1 (by rw [show (1 : Int32) = nI 1 from rfl, pk_sub (by omega)]) (by omega)
          refine ⟨rfl, kr_mono (Nat.le_succ N) (kr_res 0 h2 ht (kr_on10 h2 ht ?_))⟩
          rw [kI_sI, if_neg (by omega)]; exact hs
    · rw [if_neg d]
      rcases ha with ⟨rfl, rfl⟩ | ⟨t, ht, rfl, rfl, hs⟩
      · rw [kk_o_none, if_neg c2, if_pos ((kk_bt n1).mpr d)]; exact no
      · rw [kk_o_some, if_neg c2, if_pos ((kk_bt n1).mpr d)]; exact no
  · rw [if_neg c]
    rcases ha with ⟨rfl, rfl⟩ | ⟨t, ht, rfl, rfl, hs⟩
    · rw [kk_o_none, if_pos ((kk_bo sem 2).mpr c)]; exact no
    · rw [kk_o_some, if_pos ((kk_bo sem 2).mpr c)]; exact no
theorem kr_post {N B : Nat} {σ : kx_S} {μ : km_S} (sem : Int32) (hN : N < 2 ^ 30) (h : kr N B 2 σ μ) : kr_ri (N + 1) B (xf_post σ sem) (mf_post μ sem) := by
  rw [xf_post, mf_post]
  by_cases c : mf_out sem 2 = 0
  · rw [if_neg (fun z => (kk_bo sem 2).mp z c), if_pos c]
    obtain ⟨o1, s1, e1⟩ : ∃ o1 s1, xf_firstWaiter σ (30 + sem) = (o1, s1) := ⟨_, _, rfl⟩
    obtain ⟨r1, u1, e2⟩ : ∃ r1 u1, mf_firstWaiter μ (30 + sem) = (r1, u1) := ⟨_, _, rfl⟩
    obtain ⟨h1, ha⟩ := kr_fw hN h e1 e2
    rw [kk_b_eq e1, kk_b_eq e2]
    rcases ha with ⟨rfl, rfl⟩ | ⟨t, ht, rfl, rfl, hs, hon⟩
    · obtain ⟨s, hs2, rfl⟩ := vp_in_of (km_in (n := 2) (by decide) c) (by decide)
      obtain ⟨v1, j, hj, v2⟩ := h1.2.2.1 s hs2
      rw [kk_o_none, if_pos (show (-1 : Int32) < 0 by decide), nI_clamp (n := s) (by omega), ← v1, v2]
      by_cases z : j = 99
      · subst z
        rw [if_neg (show ¬ nI 99 < 99 by decide), if_pos (show nI 99 = 99 by decide)]
        exact ⟨rfl, kr_mono (Nat.le_succ N) h1⟩
      · rw [if_pos (show nI j < 99 from nI_lt (b := 99) (by omega) (by decide)), if_neg (show ¬ nI j = 99 from fun q => z ((nI_eq (a := j) (b := 99) (by omega) (by decide)).mp q))]
        exact ⟨rfl, kr_mono (Nat.le_succ N) (kr_val (j := j + 1) h1 (nI_1 j) (by omega))⟩
    · rw [kk_o_some, if_neg (nI_pos (by omega)), kk_v, kk_v, nI_clamp (n := t) (by omega)]
      exact ⟨rfl, kr_ready h1 ht (by rw [hs]; decide)⟩
  · rw [if_pos ((kk_bo sem 2).mpr c), if_neg c]; exact ⟨rfl, kr_mono (Nat.le_succ N) h⟩
theorem kr_sleep {N B : Nat} {σ : kx_S} {μ : km_S} (n1 : Int32) (hN : N < 2 ^ 30) (hB : B < 2 ^ 29) (h : kr N B 2 σ μ) : kr_ri (N + 1) B (xf_sleep σ n1) (mf_sleep μ n1) := by
  obtain ⟨o1, s1, e1⟩ : ∃ o1 s1, xf_runner σ = (o1, s1) := ⟨_, _, rfl⟩
  obtain ⟨r1, u1, e2⟩ : ∃ r1 u1, mf_running μ = (r1, u1) := ⟨_, _, rfl⟩
  obtain ⟨h1, -, ha⟩ := kr_run hN h e1 e2
  have no : kr_ri (N + 1) B ((-1 : Int32), s1) ((-1 : Int32), u1) := ⟨rfl, kr_mono (Nat.le_succ N) h1⟩
  rw [xf_sleep, mf_sleep, kk_b_eq e1, kk_b_eq e2]
  by_cases c : n1 < 1
  · rcases ha with ⟨rfl, rfl⟩ | ⟨t, ht, rfl, rfl, hs⟩
    · rw [kk_o_none, if_pos c, if_pos c]; exact no
    · rw [kk_o_some, if_pos c, if_pos c]; exact no
  · by_cases d : 1000 < n1
    · rcases ha with ⟨rfl, rfl⟩ | ⟨t, ht, rfl, rfl, hs⟩
      · rw [kk_o_none, if_neg c, if_neg c, if_pos d, if_pos d]; exact no
      · rw [kk_o_some, if_neg c, if_neg c, if_pos d, if_pos d]; exact no
    · rcases ha with ⟨rfl, rfl⟩ | ⟨t, ht, rfl, rfl, hs⟩
      · rw [kk_o_none, if_neg c, if_neg c, if_neg d, if_neg d, if_neg (show ¬ (0 : Int32) ≤ -1 by decide)]; exact no
      · obtain ⟨n, hn, rfl⟩ := nI_of2 (M := 1000) (n := 1000) (x := n1) (by decide) (fun q => c (Int32.lt_of_lt_of_le q (by decide))) (Int32.not_lt.mp d)
        have hn0 : 0 < n := by
          rcases Nat.eq_zero_or_pos n with q | q
          · subst q; exact absurd (by decide) c
          · exact q
        rw [kk_o_some, if_neg c, if_neg c, if_neg d, if_neg d, if_pos (nI_pos' (by omega)), xf_deadlineAfter, if_neg (nI_ne0 hn0 (by omega)), kk_b_eq rfl, kk_v, kk_v]
        exact ⟨rfl, kr_block h1 ht (by rw [hs]; decide) (kr_due hB h1 hn0 hn) (fun m hm z => absurd z (kk_c60.1 m hm)) (fun q hq _ => ⟨fun z => absurd z (kk_c60.2 q hq).1, fun z => absurd z (kk_c60.2 q hq).2⟩)⟩
/-- a thread that isn't BLOCKED and owns nothing gets another state that isn't BLOCKED: FREE, or a ZOMBIE -/
theorem kr_end {N B : Nat} {σ : kx_S} {μ : km_S} {t : Nat} {v : Int32} (h : kr N B 2 σ μ) (ht : t < 8) (hs : ¬ kI σ 10 t = 2) (hs0 : ¬ kI σ 10 t = 0) (hv : ¬ v = 1 ∧ ¬ v = 2) (ho : ∀ m, m < 4 → ¬ kI σ 3 m = nI t) : kr N B 2 (sI σ 10 t v) (sM μ 4 t v) := by
  obtain ⟨n, hn, n1, n2⟩ := h.1.2.2.2
  obtain ⟨⟨a1, a2, a3, a4, a5, a6, a7⟩, b, c, d, e, f, g⟩ := h.2.2.2.2.2 t ht
  refine kr_up (t := t) h (Nat.le_refl N) (fun f i h1 h2 => by rw [kI_sI, if_neg (by omega)]) (fun f i h1 h2 => rfl) (fun f i h1 h2 h3 => by rw [mI_sM, if_neg (by omega)]) ⟨n, hn, n1, by rw [mI_sM, if_neg (by omega)]; exact n2⟩ ⟨⟨?_, ?_, ?_, ?_, ⟨?_, ?_⟩, ?_, ?_⟩, ?_, ?_, ?_, ?_, ?_, ?_⟩ (fun q hq hqx => ?_) (Or.inr ho)
  · simp [kI_sI, mI_sM]
  · simpa [kI_sI, mI_sM] using a2
  · simpa [kI_sI, mI_sM] using a3
  · simpa [kI_sI, mI_sM] using a4
  · simpa [kI_sI, mI_sM] using a5.1
  · simpa [kI_sI, mI_sM] using a5.2
  · simpa [kI_sI, mI_sM] using a6
  · simpa [kI_sI, mI_sM] using a7
  · intro _; simpa [kI_sI, mI_sM] using b hs0
  · rcases c with c | ⟨_, _, _, _, _, c⟩
    · exact Or.inl (by simpa [kJ_sI, mI_sM] using c)
    · exact absurd c hs
  · intro _; simpa [kI_sI] using d hs
  · intro z; rw [kI_sI, if_pos ⟨rfl, rfl⟩] at z; exact absurd z hv.1
  · intro z; rw [kI_sI, if_pos ⟨rfl, rfl⟩] at z; exact absurd z hv.2
  · intro m hm4 z; rw [kI_sI, if_neg (by omega), d hs] at z; exact absurd z (kk_z10 hm4)
  · rw [kI_sI, if_neg (by omega)]; exact h.2.2.2.2.1 t q ht hq hqx
theorem kr_noown {N B x : Nat} {σ : kx_S} {μ : km_S} {t : Nat} (h : kr N B x σ μ) (ht : t < 8) (h1 : ¬ kI σ 10 t = 1) (h2 : ¬ kI σ 10 t = 2) : ∀ m, m < 4 → ¬ kI σ 3 m = nI t := (kr_ho h t ht).resolve_left (fun z => z.elim h1 h2)
theorem kr_join {N B : Nat} {σ : kx_S} {μ : km_S} (th : Int32) (hN : N < 2 ^ 30) (h : kr N B 2 σ μ) : kr_ri (N + 1) B (xf_join σ th) (mf_join μ th) := by
  obtain ⟨o1, s1, e1⟩ : ∃ o1 s1, xf_runner σ = (o1, s1) := ⟨_, _, rfl⟩
  obtain ⟨r1, u1, e2⟩ : ∃ r1 u1, mf_running μ = (r1, u1) := ⟨_, _, rfl⟩
  obtain ⟨h1, -, ha⟩ := kr_run hN h e1 e2
  have no : kr_ri (N + 1) B ((-1 : Int32), s1) ((-1 : Int32), u1) := ⟨rfl, kr_mono (Nat.le_succ N) h1⟩
  rw [xf_join, mf_join, kk_b_eq e1, kk_b_eq e2]
  by_cases c : mf_out th 8 = 0
  · have c2 : ¬ xf_isBelow th 8 = 0 := fun z => (kk_bo th 8).mp z c
    rw [if_pos c]
    rcases ha with ⟨rfl, rfl⟩ | ⟨t, ht, rfl, rfl, hs⟩
    · rw [kk_o_none, if_neg c2, if_neg (by decide)]; exact no
    · obtain ⟨k, hk, rfl⟩ := vp_in_of (km_in (n := 8) (by decide) c) (by decide)
      have T := h1.2.2.2.2.2 k hk
      rw [kk_o_some, if_neg c2, if_pos (nI_pos' (by omega)), nI_clamp (n := k) (by omega), nI_clamp (n := t) (by omega), ← T.1.1]
      by_cases d : nI t = nI k
      · have e : t = k := (nI_eq (by omega) (by omega)).mp d
        subst e
        rw [if_pos rfl, if_neg (by rw [hs]; decide), if_neg (by rw [hs]; decide), if_pos rfl]
        exact no
      · have hne : ¬ k = t := fun z => d (by rw [z])
        rw [if_neg d]
        by_cases z3 : kI s1 10 k = 3
        · rw [if_pos z3, if_pos z3]
          have v : kI s1 15 k = mI u1 11 k := (T.2.1 (by rw [z3]; decide)).2
          have w : mI (sM u1 4 k 0) 11 k = kI s1 15 k := by rw [mI_sM, if_neg (by omega)]; exact v.symm
          rw [w]
          have h2 := kr_res (kI s1 15 k) h1 ht (kr_on10 h1 ht hs)
          have f3 : kI (sI s1 15 t (kI s1 15 k)) 10 k = 3 := by rw [kI_sI, if_neg (by omega)]; exact z3
          have h3 := kr_end (v := 0) h2 hk (by rw [f3]; decide) (by rw [f3]; decide) (by decide) (kr_noown h2 hk (by rw [f3]; decide) (by rw [f3]; decide))
          refine ⟨rfl, kr_mono (Nat.le_succ N) (kr_fr h3 (fun _ _ _ => rfl) (fun _ _ => rfl) (fun f i _ => ?_))⟩
          rw [mI_sM, mI_sM, mI_sM, mI_sM]
          by_cases q1 : f = 11 ∧ i = t
          · rw [if_pos q1, if_neg (by omega), if_pos q1]
          · rw [if_neg q1, if_neg q1]
        · rw [if_neg z3, if_neg z3]
          by_cases z0 : kI s1 10 k = 0
          · rw [if_pos z0, if_pos z0]; exact no
          · rw [if_neg z0, if_neg z0, if_neg (fun z => d z.symm)]
            obtain ⟨o2, s2, e3⟩ : ∃ o2 s2, xf_firstWaiter s1 (70 + nI k) = (o2, s2) := ⟨_, _, rfl⟩
            obtain ⟨r2, u2, e4⟩ : ∃ r2 u2, mf_firstWaiter u1 (70 + nI k) = (r2, u2) := ⟨_, _, rfl⟩
            obtain ⟨h2, hb⟩ := kr_fw hN h1 e3 e4
            rw [kk_b_eq e3, kk_b_eq e4]
            rcases hb with ⟨rfl, rfl⟩ | ⟨t2, ht2, rfl, rfl, hs2, hon2⟩
            · rw [kk_o_none, if_pos (by decide), kk_v, kk_v]
              exact ⟨rfl, kr_block h2 ht (by rw [xf_fw_fr e3 10 t (by decide), hs]; decide) (Or.inl ⟨rfl, rfl⟩) (fun m hm z => absurd z ((kk_c70 k hk).1 m hm)) (fun q hq _ => ⟨fun z => absurd z ((kk_c70 k hk).2 q hq).1, fun z => absurd z ((kk_c70 k hk).2 q hq).2⟩)⟩
            · rw [kk_o_some, if_neg (nI_pos (by omega))]; exact ⟨rfl, kr_mono (Nat.le_succ N) h2⟩
  · rw [if_neg c]
    rcases ha with ⟨rfl, rfl⟩ | ⟨t, ht, rfl, rfl, hs⟩
    · rw [kk_o_none, if_pos ((kk_bo th 8).mpr c)]; exact no
    · rw [kk_o_some, if_pos ((kk_bo th 8).mpr c)]; exact no
theorem kr_owner {N B : Nat} {σ : kx_S} {μ : km_S} (m1 : Int32) (h : kr N B 2 σ μ) : kr_ri N B (xf_owner σ m1) (mf_owner μ m1) := by
  rw [xf_owner, mf_owner]
  by_cases c : mf_out m1 4 = 0
  · rw [if_neg (fun z => (kk_bo m1 4).mp z c), if_pos c]
    obtain ⟨k, hk, rfl⟩ := vp_in_of (km_in (n := 4) (by decide) c) (by decide)
    rw [nI_clamp (n := k) (by omega)]
    exact ⟨(h.2.1 k hk).1, h⟩
  · rw [if_pos ((kk_bo m1 4).mpr c), if_neg c]; exact ⟨rfl, h⟩
theorem kr_count_L {N B : Nat} {σ : kx_S} {μ : km_S} (what : Int32) (h : kr N B 2 σ μ) : ∀ n k w, n + k = 8 → mf_count_L4 what n k w μ = mf_count_L4 what 0 8 (xf_readyThreads_L13 n k w σ).1 μ ∧ (xf_readyThreads_L13 n k w σ).2 = σ := by
  intro n
  induction n with
  | zero => intro k w hnk; exact ⟨by simp only [mf_count_L4, xf_readyThreads_L13], rfl⟩
  | succ n ih =>
    intro k w hnk
    rw [mf_count_L4.eq_2, xf_readyThreads_L13, ← (h.2.2.2.2.2 k (by omega)).1.1]
    by_cases c : kI σ 10 k = 1
    · rw [if_pos c, if_pos c]; exact ih _ _ (by omega)
    · rw [if_neg c, if_neg c]; exact ih _ _ (by omega)
theorem kr_count {N B : Nat} {σ : kx_S} {μ : km_S} (what : Int32) (h : kr N B 2 σ μ) : kr_ri N B (xf_count σ what) (mf_count μ what) := by
  obtain ⟨e1, e2⟩ := kr_count_L what h 8 0 0 rfl
  rw [xf_count, mf_count, e1, mf_count_L4]
  by_cases c0 : what = 0
  · subst c0; rw [if_pos rfl, if_pos rfl]; exact ⟨(h.2.2.1 0 (by decide)).1, h⟩
  · rw [if_neg c0, if_neg c0]
    by_cases c1 : what = 1
    · subst c1; rw [if_pos rfl, if_pos rfl]; exact ⟨(h.2.2.1 1 (by decide)).1, h⟩
    · rw [if_neg c1, if_neg c1]
      by_cases c2 : what = 2
      · subst c2; rw [if_pos rfl, if_pos rfl]
        obtain ⟨j, _, j1, j2, _⟩ := h.2.2.2.1 0 (by decide)
        exact ⟨j1.trans j2.symm, h⟩
      · rw [if_neg c2, if_neg c2]
        by_cases c3 : what = 3
        · subst c3; rw [if_pos rfl, if_pos rfl]
          obtain ⟨j, _, j1, j2, _⟩ := h.2.2.2.1 1 (by decide)
          exact ⟨j1.trans j2.symm, h⟩
        · rw [if_neg c3, if_neg c3]
          by_cases c4 : what = 4
          · rw [if_pos c4, if_pos c4]
            obtain ⟨T, _, t1, t2⟩ := h.1.2.2.1
            exact ⟨t1.trans t2.symm, h⟩
          · rw [if_neg c4, if_neg c4]
            by_cases c5 : what = 5
            · rw [if_pos c5, if_pos c5, xf_readyThreads, kk_b]
              exact ⟨rfl, by rw [e2]; exact h⟩
            · rw [if_neg c5, if_neg c5]; exact ⟨rfl, h⟩
end
section
/-! exit, tell, tick -/
theorem kx_ext {σ σ' : kx_S} (h : ∀ f i, kI σ f i = kI σ' f i) (hj : ∀ f i, kJ σ f i = kJ σ' f i) : σ = σ' := Prod.ext (funext fun f => funext fun i => h f i) (funext fun f => funext fun i => hj f i)
theorem sI_comm {σ : kx_S} {f g i j : Nat} {v w : Int32} (h : f ≠ g) : sI (sI σ f i v) g j w = sI (sI σ g j w) f i v := by
  refine kx_ext (fun a b => ?_) (fun _ _ => rfl)
  rw [kI_sI, kI_sI, kI_sI, kI_sI]
  by_cases c : a = g ∧ b = j
  · rw [if_pos c, if_neg (fun z => h (z.1.symm.trans c.1)), if_pos c]
  · rw [if_neg c, if_neg c]
theorem xf_L13_co {f i : Nat} {v : Int32} (hf : f ≠ 3 ∧ f ≠ 12 ∧ f ≠ 16) : ∀ (n k : Nat) (r : Int32) (σ : kx_S), xf_inheritOnce_L13 n k r (sI σ f i v) = ((xf_inheritOnce_L13 n k r σ).1, sI (xf_inheritOnce_L13 n k r σ).2 f i v) := by
  intro n
  induction n with
  | zero => intro k r σ; rfl
  | succ n ih =>
    intro k r σ
    have hv : kx_hv (sI σ f i v) k = kx_hv σ k := by
      have e : ∀ g a, f ≠ g → kI (sI σ f i v) g a = kI σ g a := fun g a hg => by rw [kI_sI, if_neg (fun z => hg z.1.symm)]
      unfold kx_hv
      rw [e 16 k hf.2.2, e 3 1 hf.1, e 3 2 hf.1]
    have e12 : ∀ a, kI (sI σ f i v) 12 a = kI σ 12 a := fun a => by rw [kI_sI, if_neg (fun z => hf.2.1 z.1.symm)]
    rw [xf_inheritOnce_L13, xf_inheritOnce_L13, kk_b_eq (xf_heir _ k), kk_b_eq (xf_heir σ k), hv, e12, e12]
    by_cases c : kx_hv σ k = -1
    · rw [if_pos c, if_pos c]; exact ih _ _ _
    · rw [if_neg c, if_neg c]
      by_cases d : kI σ 12 k ≤ kI σ 12 (kx_hv σ k).toNatClampNeg
      · rw [if_pos d, if_pos d]; exact ih _ _ _
      · rw [if_neg d, if_neg d, sI_comm hf.2.1]; exact ih _ _ _
theorem xf_L69_co {f i : Nat} {v : Int32} (hf : f ≠ 3 ∧ f ≠ 12 ∧ f ≠ 16) : ∀ (n k : Nat) (r : Int32) (σ : kx_S), xf_work_L69 n k r (sI σ f i v) = sI (xf_work_L69 n k r σ) f i v := by
  intro n
  induction n with
  | zero => intro k r σ; rfl
  | succ n ih =>
    intro k r σ
    rw [xf_work_L69, xf_work_L69]
    by_cases c : r = 0
    · rw [if_pos c, if_pos c]
    · rw [if_neg c, if_neg c, xf_inheritOnce, xf_inheritOnce, xf_L13_co hf, kk_b, kk_b]
      exact ih _ _ _
theorem xf_L10_co {f i : Nat} {v : Int32} (hf : f ≠ 1 ∧ f ≠ 11 ∧ f ≠ 3 ∧ f ≠ 12 ∧ f ≠ 16) : ∀ (n k : Nat) (σ : kx_S), xf_work_L10 n k (sI σ f i v) = sI (xf_work_L10 n k σ) f i v := by
  intro n
  induction n with
  | zero => intro k σ; exact xf_L69_co hf.2.2 _ _ _ _
  | succ n ih =>
    intro k σ
    have e : ∀ g a, f ≠ g → kI (sI σ f i v) g a = kI σ g a := fun g a hg => by rw [kI_sI, if_neg (fun z => hg z.1.symm)]
    rw [xf_work_L10, xf_work_L10, e 3 3 hf.2.2.1, e 11 k hf.2.1, e 1 0 hf.1]
    by_cases c : kI σ 3 3 = nI k
    · rw [if_pos c, if_pos c, sI_comm hf.2.2.2.1]; exact ih _ _
    · rw [if_neg c, if_neg c, sI_comm hf.2.2.2.1]; exact ih _ _
theorem xf_work_co {σ : kx_S} {f i : Nat} {v : Int32} (hf : f ≠ 1 ∧ f ≠ 11 ∧ f ≠ 3 ∧ f ≠ 12 ∧ f ≠ 16) : xf_work (sI σ f i v) = sI (xf_work σ) f i v := xf_L10_co hf 8 0 σ
/-- who waits first doesn't hang on a thread that isn't blocked -/
theorem xf_L20_co {w : Int32} {σ σ' : kx_S} (h10 : ∀ k, kI σ' 10 k = 2 ↔ kI σ 10 k = 2) (h16 : ∀ k, kI σ' 16 k = kI σ 16 k) (h12 : ∀ k, kI σ' 12 k = kI σ 12 k) (hj : ∀ k, kJ σ' 0 k = kJ σ 0 k) : ∀ (n k : Nat) (best : Option Nat), (xf_foremost_L20 2 w n k best σ').1 = (xf_foremost_L20 2 w n k best σ).1 := by
  intro n
  induction n with
  | zero => intro k best; rw [xf_foremost_L20, xf_foremost_L20]; cases best <;> rfl
  | succ n ih =>
    intro k best
    rw [xf_foremost_L20, xf_foremost_L20]
    cases best with
    | none =>
      rw [kk_o_none, kk_o_none, h16]
      by_cases c : kI σ 10 k = 2
      · rw [if_pos c, if_pos ((h10 k).mpr c)]
        by_cases d : kI σ 16 k = w
        · rw [if_pos d, if_pos d]; exact ih _ _
        · rw [if_neg d, if_neg d]; exact ih _ _
      · rw [if_neg c, if_neg (fun z => c ((h10 k).mp z))]; exact ih _ _
    | some t =>
      rw [kk_o_some, kk_o_some, h16, kk_b_eq (xf_ahead σ' k t), kk_b_eq (xf_ahead σ k t), h12, h12, hj, hj]
      by_cases c : kI σ 10 k = 2
      · rw [if_pos c, if_pos ((h10 k).mpr c)]
        by_cases d : kI σ 16 k = w
        · rw [if_pos d, if_pos d]
          by_cases g : (if kI σ 12 t < kI σ 12 k ∨ (kI σ 12 k = kI σ 12 t ∧ kJ σ 0 k < kJ σ 0 t) then (1 : Int32) else 0) = 0
          · rw [if_pos g, if_pos g]; exact ih _ _
          · rw [if_neg g, if_neg g]; exact ih _ _
        · rw [if_neg d, if_neg d]; exact ih _ _
      · rw [if_neg c, if_neg (fun z => c ((h10 k).mp z))]; exact ih _ _
theorem xf_fw_co {σ s3 : kx_S} {t : Nat} {v w : Int32} {o : Option Nat} (hs : kI σ 10 t = 1) (h : xf_firstWaiter σ w = (o, s3)) : xf_firstWaiter (sI (sI σ 15 t v) 10 t 3) w = (o, sI (sI s3 15 t v) 10 t 3) := by
  have e3 := xf_fw_st h
  have ew : xf_work (sI (sI σ 15 t v) 10 t 3) = sI (sI s3 15 t v) 10 t 3 := by
    rw [xf_work_co (by decide), xf_work_co (by decide), e3]
  have h1 : (xf_firstWaiter (sI (sI σ 15 t v) 10 t 3) w).1 = o := by
    rw [xf_fw_eq, ew]
    rw [xf_fw_eq, ← e3] at h
    have h2 : (xf_foremost_L20 2 w 8 0 none s3).1 = o := by rw [h]
    rw [← h2]
    have t10 : kI s3 10 t = 1 := by rw [e3, (xf_work_fr σ 10 t).1 (by decide)]; exact hs
    refine xf_L20_co (σ := s3) (σ' := sI (sI s3 15 t v) 10 t 3) (fun k => ?_) (fun k => ?_) (fun k => ?_) (fun k => rfl) 8 0 none
    · rw [kI_sI]
      by_cases e : k = t
      · subst e
        rw [if_pos ⟨rfl, rfl⟩, t10]
        exact ⟨fun z => absurd z (by decide), fun z => absurd z (by decide)⟩
      · rw [if_neg (fun z => e z.2), kI_sI, if_neg (by omega)]
    · rw [kI_sI, if_neg (by omega), kI_sI, if_neg (by omega)]
    · rw [kI_sI, if_neg (by omega), kI_sI, if_neg (by omega)]
  have h2 : (xf_firstWaiter (sI (sI σ 15 t v) 10 t 3) w).2 = sI (sI s3 15 t v) 10 t 3 := by
    rw [xf_fw_st (o := (xf_firstWaiter (sI (sI σ 15 t v) 10 t 3) w).1) (σ2 := (xf_firstWaiter (sI (sI σ 15 t v) 10 t 3) w).2) rfl, ew]
  exact Prod.ext h1 h2
theorem kr_owns_L {N B t : Nat} {σ : kx_S} {μ : km_S} (value : Int32) (h : kr N B 2 σ μ) : ∀ n k, n + k = 4 → ((xf_ownsAny_L11 t n k σ = (0, σ) ∧ mf_exit_L13 value (nI t) n k μ = mf_exit_L13 value (nI t) 0 4 μ ∧ ∀ m, k ≤ m → m < 4 → ¬ kI σ 3 m = nI t) ∨ (xf_ownsAny_L11 t n k σ = (1, σ) ∧ mf_exit_L13 value (nI t) n k μ = (-1, μ))) := by
  intro n
  induction n with
  | zero => intro k hnk; exact Or.inl ⟨rfl, by simp only [mf_exit_L13], fun m h1 h2 => by omega⟩
  | succ n ih =>
    intro k hnk
    rw [xf_ownsAny_L11, mf_exit_L13.eq_2, ← (h.2.1 k (by omega)).1]
    by_cases c : kI σ 3 k = nI t
    · rw [if_pos c, if_pos c]; exact Or.inr ⟨rfl, rfl⟩
    · rw [if_neg c, if_neg c]
      rcases ih (k + 1) (by omega) with ⟨a, b, d⟩ | a
      · refine Or.inl ⟨a, b, fun m h1 h2 => ?_⟩
        by_cases e : m = k
        · subst e; exact c
        · exact d m (by omega) h2
      · exact Or.inr a
theorem kr_freeres {N B : Nat} {σ : kx_S} {μ : km_S} {t : Nat} (v : Int32) (h : kr N B 2 σ μ) (ht : t < 8) (hs : kI σ 10 t = 0) : kr N B 2 (sI σ 15 t v) μ := by
  obtain ⟨⟨a1, a2, a3, a4, a5, a6, a7⟩, b, c, d, e, f, g⟩ := h.2.2.2.2.2 t ht
  refine kr_th h ht (fun f i h1 => by rw [kI_sI, if_neg (by omega)]) (fun _ _ => rfl) (fun f i h1 => rfl) (by rw [kI_sI, if_neg (by omega)]) (by rw [kI_sI, if_neg (by omega)]) ⟨⟨?_, ?_, ?_, ?_, ⟨?_, ?_⟩, ?_, ?_⟩, ?_, ?_, ?_, ?_, ?_, ?_⟩
  · simpa [kI_sI, mI_sM] using a1
  · simpa [kI_sI, mI_sM] using a2
  · simpa [kI_sI, mI_sM] using a3
  · simpa [kI_sI, mI_sM] using a4
  · simpa [kI_sI, mI_sM] using a5.1
  · simpa [kI_sI, mI_sM] using a5.2
  · simpa [kI_sI, mI_sM] using a6
  · simpa [kI_sI, mI_sM] using a7
  · intro z; rw [kI_sI, if_neg (by omega), hs] at z; exact absurd rfl z
  · simpa [kI_sI, kJ_sI, mI_sM] using c
  · simpa [kI_sI, mI_sM] using d
  · simpa [kI_sI, kJ_sI, mI_sM] using e
  · simpa [kI_sI, kJ_sI, mI_sM] using f
  · simpa [kI_sI, mI_sM] using g
theorem kr_exit {N B : Nat} {σ : kx_S} {μ : km_S} (value : Int32) (hN : N < 2 ^ 30) (h : kr N B 2 σ μ) : kr_ri (N + 1) B (xf_exit σ value) (mf_exit μ value) := by
  obtain ⟨o1, s1, e1⟩ : ∃ o1 s1, xf_runner σ = (o1, s1) := ⟨_, _, rfl⟩
  obtain ⟨r1, u1, e2⟩ : ∃ r1 u1, mf_running μ = (r1, u1) := ⟨_, _, rfl⟩
  obtain ⟨h1, -, ha⟩ := kr_run hN h e1 e2
  have no : kr_ri (N + 1) B ((-1 : Int32), s1) ((-1 : Int32), u1) := ⟨rfl, kr_mono (Nat.le_succ N) h1⟩
  rw [xf_exit, mf_exit, kk_b_eq e1, kk_b_eq e2]
  rcases ha with ⟨rfl, rfl⟩ | ⟨t, ht, rfl, rfl, hs⟩
  · rw [kk_o_none, if_neg (show ¬ (0 : Int32) ≤ -1 by decide)]; exact no
  · rw [kk_o_some, if_pos (nI_pos' (by omega)), xf_ownsAny]
    rcases kr_owns_L (t := t) value h1 4 0 rfl with ⟨a, b, d⟩ | ⟨a, b⟩
    · rw [kk_b_eq a, if_pos rfl, b, mf_exit_L13, nI_clamp (n := t) (by omega)]
      have ho : ∀ m, m < 4 → ¬ kI s1 3 m = nI t := fun m hm => d m (Nat.zero_le m) hm
      have h2 := kr_res value h1 ht (kr_on10 h1 ht hs)
      have f1 : kI (sI s1 15 t value) 10 t = 1 := by rw [kI_sI, if_neg (by omega)]; exact hs
      have h3 : kr N B 2 (sI (sI s1 15 t value) 10 t 3) (sM (sM u1 11 t value) 4 t 3) := kr_end (v := 3) h2 ht (by rw [f1]; decide) (by rw [f1]; decide) (by decide) ho
      obtain ⟨o3, s3, e3⟩ : ∃ o3 s3, xf_firstWaiter s1 (70 + nI t) = (o3, s3) := ⟨_, _, rfl⟩
      obtain ⟨r3, u3, e4⟩ : ∃ r3 u3, mf_firstWaiter (sM (sM u1 11 t value) 4 t 3) (70 + nI t) = (r3, u3) := ⟨_, _, rfl⟩
      rw [kk_b_eq e3, kk_b_eq e4]
      obtain ⟨h4, hb⟩ := kr_fw hN h3 (xf_fw_co hs e3) e4
      rcases hb with ⟨rfl, rfl⟩ | ⟨t3, ht3, rfl, rfl, hs3, hon3⟩
      · rw [kk_o_none, if_pos (show (-1 : Int32) < 0 by decide)]
        exact ⟨rfl, kr_mono (Nat.le_succ N) h4⟩
      · rw [kk_o_some, if_neg (nI_pos (by omega)), kk_v, kk_v, nI_clamp (n := t3) (by omega)]
        have g3 : kI (sI (sI s3 15 t value) 10 t 3) 10 t = 3 := by rw [kI_sI, if_pos ⟨rfl, rfl⟩]
        have hne : ¬ t3 = t := fun z => by subst z; rw [g3] at hs3; exact absurd hs3 (by decide)
        have h5 := kr_end (v := 0) h4 ht (by rw [g3]; decide) (by rw [g3]; decide) (by decide) (kr_noown h4 ht (by rw [g3]; decide) (by rw [g3]; decide))
        have h6 := kr_ready (res := value) h5 ht3 (by rw [kI_sI, if_neg (by omega), hs3]; decide)
        have g0 : kI (xf_makeReady (sI (sI (sI s3 15 t value) 10 t 3) 10 t 0) t3 value) 10 t = 0 := by
          rw [xready_I, if_neg (by omega), if_neg (by omega), if_neg (by omega), if_neg (by omega), kI_sI, if_pos ⟨rfl, rfl⟩]
        have h7 := kr_freeres (kI s3 15 t) h6 ht g0
        refine ⟨rfl, kr_fr h7 (fun f i _ => ?_) (fun f i => ?_) (fun _ _ _ => rfl)⟩
        · simp only [kI_sI, xready_I]
          by_cases q1 : f = 15 ∧ i = t
          · rw [if_neg (by omega), if_neg (by omega), if_neg (by omega), if_neg (by omega), if_neg (by omega), if_pos q1, q1.1, q1.2]
          · rw [if_neg q1]
            by_cases q2 : f = 10 ∧ i = t
            · rw [if_pos q2, if_neg (by omega), if_neg (by omega), if_neg (by omega), if_neg (by omega), if_pos q2]
            · rw [if_neg q2, if_neg q2, if_neg q2, if_neg q1]
        · simp only [kJ_sI, xready_J]
    · rw [kk_b_eq a, if_neg (by decide), b]; exact no
theorem kr_tell {N B : Nat} {σ : kx_S} {μ : km_S} (th what : Int32) (h : kr N B 2 σ μ) : kr_rl N B (xf_tell σ th what) (mf_tell μ th what) := by
  have no : kr_rl N B ((1000000000000 : Int64), σ) ((1000000000000 : Int64), μ) := ⟨rfl, h⟩
  have hm : kr N B 2 σ (mf_weigh μ) := kr_fr h (fun _ _ _ => rfl) (fun _ _ => rfl) (fun f i hf => mf_weigh_fr μ f i hf)
  rw [xf_tell, mf_tell]
  by_cases c : mf_out th 8 = 0
  · rw [if_neg (fun z => (kk_bo th 8).mp z c), if_pos c]
    obtain ⟨t, ht, rfl⟩ := vp_in_of (km_in (n := 8) (by decide) c) (by decide)
    have T := h.2.2.2.2.2 t ht
    have TM := hm.2.2.2.2.2 t ht
    rw [nI_clamp (n := t) (by omega), ← T.1.1]
    by_cases w0 : what = 0
    · subst w0
      rw [if_pos rfl, if_neg (show ¬ (0 : Int32) < 0 by decide), if_neg (show ¬ (5 : Int32) < 0 by decide)]
      by_cases s0 : kI σ 10 t = 0
      · rw [if_pos s0, if_pos (show (0 : Int32) ≤ 0 by decide), kk_v, if_pos rfl]; exact ⟨congrArg Int32.toInt64 TM.1.1, hm⟩
      · rw [if_neg s0, kk_v, if_pos rfl]; exact ⟨congrArg Int32.toInt64 TM.1.1, hm⟩
    · rw [if_neg w0]
      by_cases w1 : what < 0
      · rw [if_pos w1]
        have q : ∀ k : Int32, ¬ k < 0 → ¬ what = k := fun k hk z => hk (by rw [← z]; exact w1)
        rw [if_neg (q 1 (by decide)), if_neg (q 2 (by decide)), if_neg (q 3 (by decide)), if_neg (q 4 (by decide)), if_neg (q 5 (by decide))]
        by_cases s0 : kI σ 10 t = 0
        · rw [if_pos s0]; exact no
        · rw [if_neg s0]; exact no
      · rw [if_neg w1]
        by_cases w2 : 5 < what
        · rw [if_pos w2]
          have q : ∀ k : Int32, ¬ 5 < k → ¬ what = k := fun k hk z => hk (by rw [← z]; exact w2)
          rw [if_neg (q 1 (by decide)), if_neg (q 2 (by decide)), if_neg (q 3 (by decide)), if_neg (q 4 (by decide)), if_neg (q 5 (by decide))]
          by_cases s0 : kI σ 10 t = 0
          · rw [if_pos s0]; exact no
          · rw [if_neg s0]; exact no
        · rw [if_neg w2]
          obtain ⟨k, hk, rfl⟩ := nI_of2 (M := 5) (n := 5) (x := what) (by decide) w1 (Int32.not_lt.mp w2)
          have hk0 : 0 < k := by
            rcases Nat.eq_zero_or_pos k with q | q
            · subst q; exact absurd rfl w0
            · exact q
          by_cases s0 : kI σ 10 t = 0
          · rw [if_pos s0, if_pos s0, if_neg (nI_nle hk0 (by omega))]; exact no
          · rw [if_neg s0, if_neg s0, kk_v, kk_v, if_neg w0]
            rcases (show k = 1 ∨ k = 2 ∨ k = 3 ∨ k = 4 ∨ k = 5 by omega) with rfl | rfl | rfl | rfl | rfl
            · rw [if_pos (show nI 1 = 1 from rfl), if_pos (show nI 1 = 1 from rfl)]
              exact ⟨congrArg Int32.toInt64 (TM.2.1 s0).1, hm⟩
            · rw [if_neg (show ¬ nI 2 = 1 by decide), if_neg (show ¬ nI 2 = 1 by decide), if_pos (show nI 2 = 2 from rfl), if_pos (show nI 2 = 2 from rfl)]
              obtain ⟨a, b⟩ := kr_weigh h
              exact ⟨congrArg Int32.toInt64 (b t ht (by rw [(xf_work_fr σ 10 t).1 (by decide)]; exact s0)), a⟩
            · rw [if_neg (show ¬ nI 3 = 1 by decide), if_neg (show ¬ nI 3 = 1 by decide), if_neg (show ¬ nI 3 = 2 by decide), if_neg (show ¬ nI 3 = 2 by decide), if_pos (show nI 3 = 3 from rfl), if_pos (show nI 3 = 3 from rfl)]
              exact ⟨congrArg Int32.toInt64 (TM.2.1 s0).2, hm⟩
            · rw [if_neg (show ¬ nI 4 = 1 by decide), if_neg (show ¬ nI 4 = 1 by decide), if_neg (show ¬ nI 4 = 2 by decide), if_neg (show ¬ nI 4 = 2 by decide), if_neg (show ¬ nI 4 = 3 by decide), if_neg (show ¬ nI 4 = 3 by decide), if_pos (show nI 4 = 4 from rfl), if_pos (show nI 4 = 4 from rfl), ← TM.1.1]
              by_cases s2 : kI σ 10 t = 2
              · rw [if_pos s2]; exact ⟨congrArg Int32.toInt64 TM.1.2.1, hm⟩
              · rw [if_neg s2]
                refine ⟨?_, hm⟩
                show (kI σ 16 t).toInt64 = 0
                rw [T.2.2.2.1 s2]; decide
            · rw [if_neg (show ¬ nI 5 = 1 by decide), if_neg (show ¬ nI 5 = 1 by decide), if_neg (show ¬ nI 5 = 2 by decide), if_neg (show ¬ nI 5 = 2 by decide), if_neg (show ¬ nI 5 = 3 by decide), if_neg (show ¬ nI 5 = 3 by decide), if_neg (show ¬ nI 5 = 4 by decide), if_neg (show ¬ nI 5 = 4 by decide), if_pos (show nI 5 = 5 from rfl), ← TM.1.1]
              rcases TM.2.2.1 with ⟨d1, d2⟩ | ⟨d, d1, d2, d3, d4, d5⟩
              · rw [d1, d2]
                by_cases s2 : kI σ 10 t = 2
                · rw [if_pos s2, if_pos (show (0 : Int32) ≤ 0 by decide)]; exact ⟨rfl, hm⟩
                · rw [if_neg s2]; exact ⟨rfl, hm⟩
              · rw [if_pos d5, d4, if_neg (nI_nle d1 (by omega)), d3]
                exact ⟨(nI_l (by omega)).symm, hm⟩
  · rw [if_pos ((kk_bo th 8).mpr c), if_neg c]; exact no
theorem kr_time {N B : Nat} {σ : kx_S} {μ : km_S} (h : kr N B 2 σ μ) : kr N (B + 1) 2 (sI σ 2 0 (kI σ 2 0 + 1)) (sM μ 2 0 (mI μ 2 0 + 1)) := by
  obtain ⟨⟨g1, g2, ⟨T, t1, t2, t3⟩, n, n1, n2, n3⟩, o, v, q, b, th⟩ := h
  refine ⟨⟨?_, ?_, ⟨T + 1, by omega, ?_, ?_⟩, n, n1, n2, ?_⟩, ?_, ?_, ?_, ?_, fun t ht => kr_t_fr (Nat.le_refl N) (fun f h1 _ => by rw [kI_sI, if_neg (by omega)]) (fun _ _ => rfl) (fun f h1 h2 => by rw [mI_sM, if_neg (by omega)]) (th t ht)⟩
  · simpa [kI_sI, mI_sM] using g1
  · simpa [kI_sI, mI_sM] using g2
  · simp [kI_sI, t2, nI_1]
  · simp [mI_sM, t3, nI_1]
  · simpa [mI_sM] using n3
  · intro m hm
    simpa [kI_sI, mI_sM] using o m hm
  · intro s hs
    simpa [kI_sI, mI_sM] using v s hs
  · intro q2 hq2
    obtain ⟨j, j1, j2, j3, j4⟩ := q q2 hq2
    refine ⟨j, j1, by simpa [kI_sI] using j2, by simpa [mI_sM] using j3, fun i hi => ?_⟩
    rw [kI_sI, if_neg (by omega), kI_sI, if_neg (by omega), mI_sM, if_neg (by omega), mI_sM, if_neg (by omega)]
    exact j4 i hi
  · intro t q2 ht hq hqx
    simpa [kI_sI] using b t q2 ht hq hqx
theorem kr_used {N B x : Nat} {σ : kx_S} {μ : km_S} {t : Nat} (v : Int32) (h : kr N B x σ μ) (ht : t < 8) : kr N B x (sI σ 14 t v) (sM μ 7 t v) := by
  obtain ⟨⟨a1, a2, a3, a4, a5, a6, a7⟩, b, c, d, e, f, g⟩ := h.2.2.2.2.2 t ht
  refine kr_th h ht (fun f i h1 => by rw [kI_sI, if_neg (by omega)]) (fun _ _ => rfl) (fun f i h1 => by rw [mI_sM, if_neg (by omega)]) (by rw [kI_sI, if_neg (by omega)]) (by rw [kI_sI, if_neg (by omega)]) ⟨⟨?_, ?_, ?_, ?_, ⟨?_, ?_⟩, ?_, ?_⟩, ?_, ?_, ?_, ?_, ?_, ?_⟩
  · simpa [kI_sI, mI_sM] using a1
  · simpa [kI_sI, mI_sM] using a2
  · simpa [kI_sI, mI_sM] using a3
  · simp [kI_sI, mI_sM]
  · simpa [kI_sI, mI_sM] using a5.1
  · simpa [kI_sI, mI_sM] using a5.2
  · simpa [kI_sI, mI_sM] using a6
  · simpa [kI_sI, mI_sM] using a7
  · simpa [kI_sI, mI_sM] using b
  · simpa [kI_sI, kJ_sI, mI_sM] using c
  · simpa [kI_sI, mI_sM] using d
  · simpa [kI_sI, kJ_sI, mI_sM] using e
  · simpa [kI_sI, kJ_sI, mI_sM] using f
  · simpa [kI_sI, mI_sM] using g
theorem kk_b20 {x : Int32} : xf_isBelow (x - 20) 2 = 0 ↔ ¬ (x = 20 ∨ x = 21) := by
  rw [kk_bo]
  constructor
  · intro h z
    apply h
    rcases z with rfl | rfl <;> decide
  · intro h z
    obtain ⟨j, hj, e⟩ := vp_in_of (km_in (n := 2) (by decide) z) (by decide)
    apply h
    have e2 : x = nI j + 20 := by rw [← e, Int32.sub_add_cancel]
    rcases (show j = 0 ∨ j = 1 by omega) with rfl | rfl
    · exact Or.inl (e2.trans (by decide))
    · exact Or.inr (e2.trans (by decide))
theorem kk_n20 : (∀ m, m < 4 → ¬ (20 : Int32) = 10 + nI m) ∧ ∀ m, m < 4 → ¬ (21 : Int32) = 10 + nI m := by decide +kernel
theorem kr_dl {N B : Nat} {σ : kx_S} {μ : km_S} {t : Nat} (h : kr N B 2 σ μ) (ht : t < 8) (hs : kI σ 10 t = 2) : kr (N + 1) B 2 (xf_endWait σ t) (mf_deadlineComes μ (nI t)) := by
  have T := h.2.2.2.2.2 t ht
  have n0 : ¬ kI σ 10 t = 0 := by rw [hs]; decide
  rw [xf_endWait, mf_deadlineComes, nI_clamp (n := t) (by omega), ← T.1.2.1]
  by_cases c20 : kI σ 16 t = 20
  · rw [if_pos c20, if_neg (by rw [c20]; decide), if_neg (fun z => kk_b20.mp z (Or.inl c20)), kk_v, kk_v]
    exact kr_retake 2 h ht hs (fun m hm z => kk_n20.1 m hm (by rw [← c20]; exact z))
  · rw [if_neg c20]
    by_cases c21 : kI σ 16 t = 21
    · rw [if_pos c21, if_neg (by rw [c21]; decide), if_neg (fun z => kk_b20.mp z (Or.inr c21)), kk_v, kk_v]
      exact kr_retake 2 h ht hs (fun m hm z => kk_n20.2 m hm (by rw [← c21]; exact z))
    · rw [if_neg c21]
      by_cases c60 : kI σ 16 t = 60
      · rw [if_pos c60, if_pos c60, kk_v, kk_v]; exact kr_ready h ht n0
      · rw [if_neg c60, if_neg c60, if_pos (kk_b20.mpr (fun z => z.elim c20 c21)), kk_v, kk_v]; exact kr_ready h ht n0
theorem kr_tick_in {B : Nat} (n1 : Int32) (hB : B < 2 ^ 29) : ∀ (n k N : Nat) (σ : kx_S) (μ : km_S), n + k = 8 → kr N B 2 σ μ → (∃ T, 0 < T ∧ T ≤ B ∧ kI σ 2 0 = nI T) → kr (N + n) B 2 (xf_tickOnce_L35 n k σ) (mf_tick_L83 n1 n k μ) := by
  intro n
  induction n with
  | zero => intro k N σ μ hnk h hT; exact h
  | succ n ih =>
    intro k N σ μ hnk h hT
    have hk : k < 8 := by omega
    have Tk := h.2.2.2.2.2 k hk
    obtain ⟨T, T0, T1, T2⟩ := hT
    have mT : mI μ 2 0 = nI T := by
      obtain ⟨T', _, a, b⟩ := h.1.2.2.1
      rw [b, ← a, T2]
    have hend : ∀ s : kx_S, s = xf_endWait σ k → ∃ T, 0 < T ∧ T ≤ B ∧ kI s 2 0 = nI T := by
      intro s e
      subst e
      refine ⟨T, T0, T1, ?_⟩
      rw [← T2, xf_endWait]
      have r : ∀ (r : Int32) (s : kx_S), kI (xf_makeReady s k r) 2 0 = kI s 2 0 := fun r s => by rw [xready_I, if_neg (by omega), if_neg (by omega), if_neg (by omega), if_neg (by omega)]
      split
      · rw [kk_v, r]
      · split
        · rw [kk_v, r]
        · rw [kk_v, xf_endAwait, kk_v, xf_take]
          split
          · rw [kk_v, xf_makeOwner]
            split
            · rw [kI_sI, if_neg (by omega), kI_sI, if_neg (by omega), kI_sI, if_neg (by omega), kI_sI, if_neg (by omega)]
            · rw [kk_v, r, kI_sI, if_neg (by omega), kI_sI, if_neg (by omega), kI_sI, if_neg (by omega)]
          · rw [kk_v, xblock_I, if_neg (by omega), if_neg (by omega), kI_sI, if_neg (by omega), kI_sI, if_neg (by omega)]
    have stay : kr (N + (n + 1)) B 2 (xf_tickOnce_L35 n (k + 1) σ) (mf_tick_L83 n1 n (k + 1) μ) := kr_mono (by omega) (ih (k + 1) N σ μ (by omega) h ⟨T, T0, T1, T2⟩)
    rw [xf_tickOnce_L35, mf_tick_L83, ← Tk.1.1, mT, T2]
    rcases Tk.2.2.1 with ⟨d1, d2⟩ | ⟨d, d1, d2, d3, d4, d5⟩
    · rw [d1, d2, nI_l (by omega), if_neg (fun z => absurd ((lg_cmp_eq _ _).mp z) (fun q => by
        have := (pk_lEQ (a := 1000000000000) (b := T) (by decide) (by omega)).mp q
        omega)), if_neg (show ¬ (0 : Int32) = nI T from fun z => nI_ne0 T0 (by omega) z.symm)]
      by_cases c : kI σ 10 k = 2
      · rw [if_pos c]; exact stay
      · rw [if_neg c]; exact stay
    · rw [d3, d4, nI_l (by omega), if_pos d5]
      by_cases c : d = T
      · subst c
        rw [if_pos ((lg_cmp_eq _ _).mpr rfl), if_pos rfl, kk_v, kk_v]
        have h2 := kr_dl h hk d5
        have h3 := ih (k + 1) (N + 1) _ _ (by omega) h2 (hend _ rfl)
        rw [show N + (n + 1) = N + 1 + n by omega]
        exact h3
      · rw [if_neg (fun z => c ((pk_lEQ (by omega) (by omega)).mp ((lg_cmp_eq _ _).mp z))), if_neg (fun z => c ((nI_eq (by omega) (by omega)).mp z))]
        exact stay
theorem kr_tick_L (n1 : Int32) : ∀ (n k N B : Nat) (σ : kx_S) (μ : km_S), N + 9 * n < 2 ^ 30 → B + n < 2 ^ 29 → kr N B 2 σ μ → kr_ri (N + 9 * n) (B + n) (xf_tick_L15 n1 n k σ) (mf_tick_L15 n1 n k μ) := by
  intro n
  induction n with
  | zero =>
    intro k N B σ μ hN hB h
    rw [xf_tick_L15, mf_tick_L15, kk_b, kk_b]
    exact kr_running (by omega) h
  | succ n ih =>
    intro k N B σ μ hN hB h
    obtain ⟨o1, s1, e1⟩ : ∃ o1 s1, xf_runner σ = (o1, s1) := ⟨_, _, rfl⟩
    obtain ⟨r1, u1, e2⟩ : ∃ r1 u1, mf_running μ = (r1, u1) := ⟨_, _, rfl⟩
    obtain ⟨h1, -, ha⟩ := kr_run (by omega) h e1 e2
    have h2 := kr_time h1
    have hT : ∃ T, 0 < T ∧ T ≤ B + 1 ∧ kI (sI s1 2 0 (kI s1 2 0 + 1)) 2 0 = nI T := by
      obtain ⟨T, t1, t2, t3⟩ := h1.1.2.2.1
      exact ⟨T + 1, by omega, by omega, by rw [kI_sI, if_pos ⟨rfl, rfl⟩, t2, nI_1]⟩
    have fin : ∀ (σ' : kx_S) (μ' : km_S), kr (N + 1) (B + 1) 2 σ' μ' → (∃ T, 0 < T ∧ T ≤ B + 1 ∧ kI σ' 2 0 = nI T) → kr_ri (N + 9 * (n + 1)) (B + (n + 1)) (xf_tick_L15 n1 n (k + 1) (xf_tickOnce_L35 8 0 σ')) (mf_tick_L15 n1 n (k + 1) (mf_tick_L83 n1 8 0 μ')) := by
      intro σ' μ' h3 hT3
      have h4 := kr_tick_in (B := B + 1) n1 (by omega) 8 0 (N + 1) σ' μ' rfl h3 hT3
      have h5 := ih (k + 1) (N + 1 + 8) (B + 1) _ _ (by omega) (by omega) h4
      rw [show N + 9 * (n + 1) = N + 1 + 8 + 9 * n by omega, show B + (n + 1) = B + 1 + n by omega]
      exact h5
    rw [xf_tick_L15, mf_tick_L15, kk_v, xf_tickOnce, kk_b_eq e1, kk_b_eq e2]
    rcases ha with ⟨rfl, rfl⟩ | ⟨t, ht, rfl, rfl, hs⟩
    · rw [kk_o_none, if_pos (show (-1 : Int32) < 0 by decide), kk_v]
      exact fin _ _ (kr_mono (by omega) h2) hT
    · rw [kk_o_some, if_neg (nI_pos (by omega)), nI_clamp (n := t) (by omega), kk_v, xf_useTick]
      have e10 : kI (sI s1 2 0 (kI s1 2 0 + 1)) 10 t = 1 := by rw [kI_sI, if_neg (by omega)]; exact hs
      generalize sI s1 2 0 (kI s1 2 0 + 1) = σ2 at *
      generalize sM u1 2 0 (mI u1 2 0 + 1) = μ2 at *
      have eu : kI σ2 14 t = mI μ2 7 t := (h2.2.2.2.2.2 t ht).1.2.2.2.1
      have h3 := kr_used (kI σ2 14 t + 1) h2 ht
      rw [← eu]
      have hT3 : ∃ T, 0 < T ∧ T ≤ B + 1 ∧ kI (sI σ2 14 t (kI σ2 14 t + 1)) 2 0 = nI T := by
        obtain ⟨T, t1, t2, t3⟩ := hT
        exact ⟨T, t1, t2, by rw [kI_sI, if_neg (by omega)]; exact t3⟩
      have f10 : kI (sI σ2 14 t (kI σ2 14 t + 1)) 10 t = 1 := by rw [kI_sI, if_neg (by omega)]; exact e10
      generalize sI σ2 14 t (kI σ2 14 t + 1) = σ3 at *
      generalize sM μ2 7 t (kI σ2 14 t + 1) = μ3 at *
      have T3 := h3.2.2.2.2.2 t ht
      rw [← T3.1.2.2.1, ← T3.1.2.2.2.1, ← h3.1.1]
      by_cases c : kI σ3 13 t = 0
      · rw [if_pos c, if_pos c, kk_v]; exact fin _ _ (kr_mono (by omega) h3) hT3
      · rw [if_neg c, if_neg c]
        by_cases d : kI σ3 14 t = kI σ3 0 0
        · rw [if_pos d, if_pos d, kk_v, kk_v, kk_v]
          refine fin _ _ (kr_turn h3 ht f10) ?_
          obtain ⟨T, t1, t2, t3⟩ := hT3
          exact ⟨T, t1, t2, by rw [xstart_I, if_neg (by omega)]; exact t3⟩
        · rw [if_neg d, if_neg d, kk_v]; exact fin _ _ (kr_mono (by omega) h3) hT3
theorem kr_tick {N B : Nat} {σ : kx_S} {μ : km_S} (n1 : Int32) (hN : N + 900 < 2 ^ 30) (hB : B + 100 < 2 ^ 29) (h : kr N B 2 σ μ) : kr_ri (N + 900) (B + 100) (xf_tick σ n1) (mf_tick μ n1) := by
  have no : kr_ri (N + 900) (B + 100) ((-1 : Int32), σ) ((-1 : Int32), μ) := ⟨rfl, kr_monoB (by omega) (kr_mono (by omega) h)⟩
  rw [xf_tick, mf_tick]
  by_cases c : n1 < 1
  · rw [if_pos c, if_pos c]; exact no
  · rw [if_neg c, if_neg c]
    by_cases d : n1 ≤ 100
    · rw [if_pos d, if_pos d]
      have e := kk_tn c
      have hn : n1.toNatClampNeg ≤ 100 := by
        obtain ⟨j, hj, e2⟩ := nI_of2 (M := 100) (n := 100) (x := n1) (by decide) (fun q => c (Int32.lt_of_lt_of_le q (by decide))) d
        rw [e2, nI_clamp (by omega)]; exact hj
      obtain ⟨a, b⟩ := kr_tick_L n1 n1.toNatClampNeg 0 N B σ μ (by omega) (by omega) h
      exact ⟨a, kr_monoB (by omega) (kr_mono (by omega) b)⟩
    · rw [if_neg d, if_neg d]; exact no
end
section
/-! the queues -/
theorem kI_n {S : kx_S} {f i a b : Nat} {v : Int32} (h : ¬ (a = f ∧ b = i)) : kI (sI S f i v) a b = kI S a b := by rw [kI_sI, if_neg h]
theorem mI_n {S : km_S} {f i a b : Nat} {v : Int32} (h : ¬ (a = f ∧ b = i)) : mI (sM S f i v) a b = mI S a b := by rw [mI_sM, if_neg h]
theorem kr_toq {N B q : Nat} {σ : kx_S} {μ : km_S} (h : kr N B 2 σ μ) : kr N B q σ μ := ⟨h.1, h.2.1, h.2.2.1, h.2.2.2.1, fun t q2 ht hq _ => h.2.2.2.2.1 t q2 ht hq (by omega), h.2.2.2.2.2⟩
theorem kr_fromq {N B q : Nat} {σ : kx_S} {μ : km_S} (h : kr N B q σ μ) (hq : ∀ t, t < 8 → (kI σ 16 t = 40 + nI q → kI σ 9 q = 4) ∧ (kI σ 16 t = 50 + nI q → kI σ 9 q = 0)) : kr N B 2 σ μ := by
  refine ⟨h.1, h.2.1, h.2.2.1, h.2.2.2.1, fun t q2 ht hq2 _ => ?_, h.2.2.2.2.2⟩
  by_cases e : q2 = q
  · subst e; exact hq t ht
  · exact h.2.2.2.2.1 t q2 ht hq2 e
theorem kr_qupd {N B x q : Nat} {σ σ' : kx_S} {μ μ' : km_S} (h : kr N B x σ μ) (hxq : x = 2 ∨ x = q) (hq2 : q < 2)
    (hx : ∀ f i, f ≠ 5 + q → f ≠ 7 + q → ¬ (f = 9 ∧ i = q) → kI σ' f i = kI σ f i) (hj : ∀ f i, kJ σ' f i = kJ σ f i)
    (hm : ∀ f i, ¬ ((f = 20 ∨ f = 21) ∧ 4 * q ≤ i ∧ i < 4 * q + 4) → ¬ (f = 19 ∧ i = q) → mI μ' f i = mI μ f i)
    (hn : ∃ j, j ≤ 4 ∧ kI σ' 9 q = nI j ∧ mI μ' 19 q = nI j ∧ ∀ i, i < j → kI σ' (5 + q) i = mI μ' 20 (4 * q + i) ∧ kI σ' (7 + q) i = mI μ' 21 (4 * q + i)) : kr N B q σ' μ' := by
  obtain ⟨⟨g1, g2, ⟨T, gT, g3, g4⟩, n, n1, n2, n3⟩, o, v, qq, b, th⟩ := h
  refine ⟨⟨?_, ?_, ⟨T, gT, ?_, ?_⟩, n, n1, ?_, ?_⟩, fun m hm4 => ?_, fun s hs => ?_, fun q2 hq => ?_, fun t q2 ht hq hne => ?_, fun t ht => kr_t_fr (Nat.le_refl N) (fun f h1 _ => hx f t (by omega) (by omega) (by omega)) (fun f _ => hj f t) (fun f h1 h2 => hm f t (by omega) (by omega)) (th t ht)⟩
  · rw [hx 0 0 (by omega) (by omega) (by omega), hm 0 0 (by omega) (by omega)]; exact g1
  · rw [hx 1 0 (by omega) (by omega) (by omega), hm 1 0 (by omega) (by omega)]; exact g2
  · rw [hx 2 0 (by omega) (by omega) (by omega)]; exact g3
  · rw [hm 2 0 (by omega) (by omega)]; exact g4
  · rw [hj]; exact n2
  · rw [hm 3 0 (by omega) (by omega)]; exact n3
  · rw [hx 3 m (by omega) (by omega) (by omega), hm 17 m (by omega) (by omega)]
    obtain ⟨a, c⟩ := o m hm4
    refine ⟨a, c.imp id (fun ⟨t2, c1, c2, c3⟩ => ⟨t2, c1, c2, ?_⟩)⟩
    rw [hx 10 t2 (by omega) (by omega) (by omega)]; exact c3
  · rw [hx 4 s (by omega) (by omega) (by omega), hm 18 s (by omega) (by omega)]; exact v s hs
  · by_cases e : q2 = q
    · subst e; exact hn
    · obtain ⟨j, j1, j2, j3, j4⟩ := qq q2 hq
      refine ⟨j, j1, by rw [hx 9 q2 (by omega) (by omega) (by omega)]; exact j2, by rw [hm 19 q2 (by omega) (by omega)]; exact j3, fun i hi => ?_⟩
      rw [hx (5 + q2) i (by omega) (by omega) (by omega), hx (7 + q2) i (by omega) (by omega) (by omega), hm 20 _ (by omega) (by omega), hm 21 _ (by omega) (by omega)]
      exact j4 i hi
  · rw [hx 9 q2 (by omega) (by omega) (by omega), hx 16 t (by omega) (by omega) (by omega)]
    exact b t q2 ht hq (by omega)
set_option maxHeartbeats 4000000 in
theorem kr_ins_0_0 {N B x : Nat} {σ : kx_S} {μ : km_S} (rank value : Int32) (h : kr N B x σ μ) (hxq : x = 2 ∨ x = 0) (hs : kI σ 9 0 = nI 0) : kr N B 0 (xf_insert_0 σ rank value) (mf_comeIn μ 0 rank value) ∧ kI (xf_insert_0 σ rank value) 9 0 = nI 1 ∧ ∀ f k, 10 ≤ f → kI (xf_insert_0 σ rank value) f k = kI σ f k := by
  obtain ⟨j, j1, j2, j3, j4⟩ := h.2.2.2.1 0 (by decide)
  obtain rfl : j = 0 := (nI_eq (by omega) (by omega)).mp (j2.symm.trans hs)
  have full : xf_isFull_0 σ = (0, σ) := by unfold xf_isFull_0; rw [if_neg (by rw [hs]; decide)]
  rw [xf_insert_0, kk_b_eq full, if_pos rfl, if_pos (show kI σ 9 0 = 0 by rw [hs]; decide)]
  rw [mf_comeIn, if_pos rfl, if_pos (show mI μ 19 0 = 0 by rw [j3]; decide)]
  refine ⟨?_, ?_, fun f k hf => ?_⟩
  · skip
    refine kr_qupd h hxq (by decide) (fun f i h1 h2 h3 => ?_) (fun _ _ => rfl) (fun f i h1 h2 => ?_) ⟨1, by decide, ?_, ?_, fun i hi => ?_⟩
    · rw [kI_n (by omega), kI_n (by omega), kI_n (by omega)]
    · rw [mI_n (by omega), mI_n (by omega), mI_n (by omega)]
    · exact (show _ = kI σ 9 0 + 1 from rfl).trans (by rw [hs]; decide)
    · exact (show _ = mI μ 19 0 + 1 from rfl).trans (by rw [j3]; decide)
    · rcases (show i = 0 by omega) with rfl
      exact ⟨by first | rfl, by first | rfl⟩
  · exact (show _ = kI σ 9 0 + 1 from rfl).trans (by rw [hs]; decide)
  · rw [kI_n (by omega), kI_n (by omega), kI_n (by omega)]
set_option maxHeartbeats 4000000 in
theorem kr_ins_0_1 {N B x : Nat} {σ : kx_S} {μ : km_S} (rank value : Int32) (h : kr N B x σ μ) (hxq : x = 2 ∨ x = 0) (hs : kI σ 9 0 = nI 1) : kr N B 0 (xf_insert_0 σ rank value) (mf_comeIn μ 0 rank value) ∧ kI (xf_insert_0 σ rank value) 9 0 = nI 2 ∧ ∀ f k, 10 ≤ f → kI (xf_insert_0 σ rank value) f k = kI σ f k := by
  obtain ⟨j, j1, j2, j3, j4⟩ := h.2.2.2.1 0 (by decide)
  obtain rfl : j = 1 := (nI_eq (by omega) (by omega)).mp (j2.symm.trans hs)
  have a0 := j4 0 (by decide)
  have full : xf_isFull_0 σ = (0, σ) := by unfold xf_isFull_0; rw [if_neg (by rw [hs]; decide)]
  rw [xf_insert_0, kk_b_eq full, if_pos rfl, if_neg (show ¬ kI σ 9 0 = 0 by rw [hs]; decide), if_pos (show kI σ 9 0 = 1 by rw [hs]; decide)]
  rw [mf_comeIn, if_pos rfl, if_neg (show ¬ mI μ 19 0 = 0 by rw [j3]; decide), if_pos (show mI μ 19 0 = 1 by rw [j3]; decide)]
  have e0 : (mI μ 20 0) = (kI σ 5 0) := by first | exact a0.1.symm
  by_cases c0 : rank ≤ (kI σ 5 0)
  · rw [if_pos c0, if_pos (show rank ≤ (mI μ 20 0) by rw [e0]; exact c0)]
    refine ⟨?_, ?_, fun f k hf => ?_⟩
    · skip
      refine kr_qupd h hxq (by decide) (fun f i h1 h2 h3 => ?_) (fun _ _ => rfl) (fun f i h1 h2 => ?_) ⟨2, by decide, ?_, ?_, fun i hi => ?_⟩
      · rw [kI_n (by omega), kI_n (by omega), kI_n (by omega)]
      · rw [mI_n (by omega), mI_n (by omega), mI_n (by omega)]
      · exact (show _ = kI σ 9 0 + 1 from rfl).trans (by rw [hs]; decide)
      · exact (show _ = mI μ 19 0 + 1 from rfl).trans (by rw [j3]; decide)
      · rcases (show i = 0 ∨ i = 1 by omega) with rfl | rfl
        · exact ⟨by first | rfl | exact a0.1, by first | rfl | exact a0.2⟩
        · exact ⟨by first | rfl | exact a0.1, by first | rfl | exact a0.2⟩
    · exact (show _ = kI σ 9 0 + 1 from rfl).trans (by rw [hs]; decide)
    · rw [kI_n (by omega), kI_n (by omega), kI_n (by omega)]
  · rw [if_neg c0, if_neg (show ¬ rank ≤ (mI μ 20 0) by rw [e0]; exact c0)]
    refine ⟨?_, ?_, fun f k hf => ?_⟩
    · skip
      refine kr_qupd h hxq (by decide) (fun f i h1 h2 h3 => ?_) (fun _ _ => rfl) (fun f i h1 h2 => ?_) ⟨2, by decide, ?_, ?_, fun i hi => ?_⟩
      · rw [kI_n (by omega), kI_n (by omega), kI_n (by omega), kI_n (by omega), kI_n (by omega)]
      · rw [mI_n (by omega), mI_n (by omega), mI_n (by omega), mI_n (by omega), mI_n (by omega)]
      · exact (show _ = kI σ 9 0 + 1 from rfl).trans (by rw [hs]; decide)
      · exact (show _ = mI μ 19 0 + 1 from rfl).trans (by rw [j3]; decide)
      · rcases (show i = 0 ∨ i = 1 by omega) with rfl | rfl
        · exact ⟨by first | rfl | exact a0.1, by first | rfl | exact a0.2⟩
        · exact ⟨by first | rfl | exact a0.1, by first | rfl | exact a0.2⟩
    · exact (show _ = kI σ 9 0 + 1 from rfl).trans (by rw [hs]; decide)
    · rw [kI_n (by omega), kI_n (by omega), kI_n (by omega), kI_n (by omega), kI_n (by omega)]
set_option maxHeartbeats 4000000 in
theorem kr_ins_0_2 {N B x : Nat} {σ : kx_S} {μ : km_S} (rank value : Int32) (h : kr N B x σ μ) (hxq : x = 2 ∨ x = 0) (hs : kI σ 9 0 = nI 2) : kr N B 0 (xf_insert_0 σ rank value) (mf_comeIn μ 0 rank value) ∧ kI (xf_insert_0 σ rank value) 9 0 = nI 3 ∧ ∀ f k, 10 ≤ f → kI (xf_insert_0 σ rank value) f k = kI σ f k := by
  obtain ⟨j, j1, j2, j3, j4⟩ := h.2.2.2.1 0 (by decide)
  obtain rfl : j = 2 := (nI_eq (by omega) (by omega)).mp (j2.symm.trans hs)
  have a0 := j4 0 (by decide)
  have a1 := j4 1 (by decide)
  have full : xf_isFull_0 σ = (0, σ) := by unfold xf_isFull_0; rw [if_neg (by rw [hs]; decide)]
  rw [xf_insert_0, kk_b_eq full, if_pos rfl, if_neg (show ¬ kI σ 9 0 = 0 by rw [hs]; decide), if_neg (show ¬ kI σ 9 0 = 1 by rw [hs]; decide), if_pos (show kI σ 9 0 = 2 by rw [hs]; decide)]
  rw [mf_comeIn, if_pos rfl, if_neg (show ¬ mI μ 19 0 = 0 by rw [j3]; decide), if_neg (show ¬ mI μ 19 0 = 1 by rw [j3]; decide), if_pos (show mI μ 19 0 = 2 by rw [j3]; decide)]
  have e0 : (mI μ 20 1) = (kI σ 5 1) := by first | exact a0.1.symm | exact a1.1.symm
  by_cases c0 : rank ≤ (kI σ 5 1)
  · rw [if_pos c0, if_pos (show rank ≤ (mI μ 20 1) by rw [e0]; exact c0)]
    refine ⟨?_, ?_, fun f k hf => ?_⟩
    · skip
      refine kr_qupd h hxq (by decide) (fun f i h1 h2 h3 => ?_) (fun _ _ => rfl) (fun f i h1 h2 => ?_) ⟨3, by decide, ?_, ?_, fun i hi => ?_⟩
      · rw [kI_n (by omega), kI_n (by omega), kI_n (by omega)]
      · rw [mI_n (by omega), mI_n (by omega), mI_n (by omega)]
      · exact (show _ = kI σ 9 0 + 1 from rfl).trans (by rw [hs]; decide)
      · exact (show _ = mI μ 19 0 + 1 from rfl).trans (by rw [j3]; decide)
      · rcases (show i = 0 ∨ i = 1 ∨ i = 2 by omega) with rfl | rfl | rfl
        · exact ⟨by first | rfl | exact a0.1 | exact a1.1, by first | rfl | exact a0.2 | exact a1.2⟩
        · exact ⟨by first | rfl | exact a0.1 | exact a1.1, by first | rfl | exact a0.2 | exact a1.2⟩
        · exact ⟨by first | rfl | exact a0.1 | exact a1.1, by first | rfl | exact a0.2 | exact a1.2⟩
    · exact (show _ = kI σ 9 0 + 1 from rfl).trans (by rw [hs]; decide)
    · rw [kI_n (by omega), kI_n (by omega), kI_n (by omega)]
  · rw [if_neg c0, if_neg (show ¬ rank ≤ (mI μ 20 1) by rw [e0]; exact c0)]
    have e1 : (mI (sM (sM μ 20 2 (mI μ 20 1)) 21 2 (mI (sM μ 20 2 (mI μ 20 1)) 21 1)) 20 0) = (kI (sI (sI σ 5 2 (kI σ 5 1)) 7 2 (kI (sI σ 5 2 (kI σ 5 1)) 7 1)) 5 0) := by first | exact a0.1.symm | exact a1.1.symm
    by_cases c1 : rank ≤ (kI (sI (sI σ 5 2 (kI σ 5 1)) 7 2 (kI (sI σ 5 2 (kI σ 5 1)) 7 1)) 5 0)
    · rw [if_pos c1, if_pos (show rank ≤ (mI (sM (sM μ 20 2 (mI μ 20 1)) 21 2 (mI (sM μ 20 2 (mI μ 20 1)) 21 1)) 20 0) by rw [e1]; exact c1)]
      refine ⟨?_, ?_, fun f k hf => ?_⟩
      · skip
        refine kr_qupd h hxq (by decide) (fun f i h1 h2 h3 => ?_) (fun _ _ => rfl) (fun f i h1 h2 => ?_) ⟨3, by decide, ?_, ?_, fun i hi => ?_⟩
        · rw [kI_n (by omega), kI_n (by omega), kI_n (by omega), kI_n (by omega), kI_n (by omega)]
        · rw [mI_n (by omega), mI_n (by omega), mI_n (by omega), mI_n (by omega), mI_n (by omega)]
        · exact (show _ = kI σ 9 0 + 1 from rfl).trans (by rw [hs]; decide)
        · exact (show _ = mI μ 19 0 + 1 from rfl).trans (by rw [j3]; decide)
        · rcases (show i = 0 ∨ i = 1 ∨ i = 2 by omega) with rfl | rfl | rfl
          · exact ⟨by first | rfl | exact a0.1 | exact a1.1, by first | rfl | exact a0.2 | exact a1.2⟩
          · exact ⟨by first | rfl | exact a0.1 | exact a1.1, by first | rfl | exact a0.2 | exact a1.2⟩
          · exact ⟨by first | rfl | exact a0.1 | exact a1.1, by first | rfl | exact a0.2 | exact a1.2⟩
      · exact (show _ = kI σ 9 0 + 1 from rfl).trans (by rw [hs]; decide)
      · rw [kI_n (by omega), kI_n (by omega), kI_n (by omega), kI_n (by omega), kI_n (by omega)]
    · rw [if_neg c1, if_neg (show ¬ rank ≤ (mI (sM (sM μ 20 2 (mI μ 20 1)) 21 2 (mI (sM μ 20 2 (mI μ 20 1)) 21 1)) 20 0) by rw [e1]; exact c1)]
      refine ⟨?_, ?_, fun f k hf => ?_⟩
      · skip
        refine kr_qupd h hxq (by decide) (fun f i h1 h2 h3 => ?_) (fun _ _ => rfl) (fun f i h1 h2 => ?_) ⟨3, by decide, ?_, ?_, fun i hi => ?_⟩
        · rw [kI_n (by omega), kI_n (by omega), kI_n (by omega), kI_n (by omega), kI_n (by omega), kI_n (by omega), kI_n (by omega)]
        · rw [mI_n (by omega), mI_n (by omega), mI_n (by omega), mI_n (by omega), mI_n (by omega), mI_n (by omega), mI_n (by omega)]
        · exact (show _ = kI σ 9 0 + 1 from rfl).trans (by rw [hs]; decide)
        · exact (show _ = mI μ 19 0 + 1 from rfl).trans (by rw [j3]; decide)
        · rcases (show i = 0 ∨ i = 1 ∨ i = 2 by omega) with rfl | rfl | rfl
          · exact ⟨by first | rfl | exact a0.1 | exact a1.1, by first | rfl | exact a0.2 | exact a1.2⟩
          · exact ⟨by first | rfl | exact a0.1 | exact a1.1, by first | rfl | exact a0.2 | exact a1.2⟩
          · exact ⟨by first | rfl | exact a0.1 | exact a1.1, by first | rfl | exact a0.2 | exact a1.2⟩
      · exact (show _ = kI σ 9 0 + 1 from rfl).trans (by rw [hs]; decide)
      · rw [kI_n (by omega), kI_n (by omega), kI_n (by omega), kI_n (by omega), kI_n (by omega), kI_n (by omega), kI_n (by omega)]
set_option maxHeartbeats 4000000 in
theorem kr_ins_0_3 {N B x : Nat} {σ : kx_S} {μ : km_S} (rank value : Int32) (h : kr N B x σ μ) (hxq : x = 2 ∨ x = 0) (hs : kI σ 9 0 = nI 3) : kr N B 0 (xf_insert_0 σ rank value) (mf_comeIn μ 0 rank value) ∧ kI (xf_insert_0 σ rank value) 9 0 = nI 4 ∧ ∀ f k, 10 ≤ f → kI (xf_insert_0 σ rank value) f k = kI σ f k := by
  obtain ⟨j, j1, j2, j3, j4⟩ := h.2.2.2.1 0 (by decide)
  obtain rfl : j = 3 := (nI_eq (by omega) (by omega)).mp (j2.symm.trans hs)
  have a0 := j4 0 (by decide)
  have a1 := j4 1 (by decide)
  have a2 := j4 2 (by decide)
  have full : xf_isFull_0 σ = (0, σ) := by unfold xf_isFull_0; rw [if_neg (by rw [hs]; decide)]
  rw [xf_insert_0, kk_b_eq full, if_pos rfl, if_neg (show ¬ kI σ 9 0 = 0 by rw [hs]; decide), if_neg (show ¬ kI σ 9 0 = 1 by rw [hs]; decide), if_neg (show ¬ kI σ 9 0 = 2 by rw [hs]; decide)]
  rw [mf_comeIn, if_pos rfl, if_neg (show ¬ mI μ 19 0 = 0 by rw [j3]; decide), if_neg (show ¬ mI μ 19 0 = 1 by rw [j3]; decide), if_neg (show ¬ mI μ 19 0 = 2 by rw [j3]; decide)]
  have e0 : (mI μ 20 2) = (kI σ 5 2) := by first | exact a0.1.symm | exact a1.1.symm | exact a2.1.symm
  by_cases c0 : rank ≤ (kI σ 5 2)
  · rw [if_pos c0, if_pos (show rank ≤ (mI μ 20 2) by rw [e0]; exact c0)]
    refine ⟨?_, ?_, fun f k hf => ?_⟩
    · skip
      refine kr_qupd h hxq (by decide) (fun f i h1 h2 h3 => ?_) (fun _ _ => rfl) (fun f i h1 h2 => ?_) ⟨4, by decide, ?_, ?_, fun i hi => ?_⟩
      · rw [kI_n (by omega), kI_n (by omega), kI_n (by omega)]
      · rw [mI_n (by omega), mI_n (by omega), mI_n (by omega)]
      · exact (show _ = kI σ 9 0 + 1 from rfl).trans (by rw [hs]; decide)
      · exact (show _ = mI μ 19 0 + 1 from rfl).trans (by rw [j3]; decide)
      · rcases (show i = 0 ∨ i = 1 ∨ i = 2 ∨ i = 3 by omega) with rfl | rfl | rfl | rfl
        · exact ⟨by first | rfl | exact a0.1 | exact a1.1 | exact a2.1, by first | rfl | exact a0.2 | exact a1.2 | exact a2.2⟩
        · exact ⟨by first | rfl | exact a0.1 | exact a1.1 | exact a2.1, by first | rfl | exact a0.2 | exact a1.2 | exact a2.2⟩
        · exact ⟨by first | rfl | exact a0.1 | exact a1.1 | exact a2.1, by first | rfl | exact a0.2 | exact a1.2 | exact a2.2⟩
        · exact ⟨by first | rfl | exact a0.1 | exact a1.1 | exact a2.1, by first | rfl | exact a0.2 | exact a1.2 | exact a2.2⟩
    · exact (show _ = kI σ 9 0 + 1 from rfl).trans (by rw [hs]; decide)
    · rw [kI_n (by omega), kI_n (by omega), kI_n (by omega)]
  · rw [if_neg c0, if_neg (show ¬ rank ≤ (mI μ 20 2) by rw [e0]; exact c0)]
    have e1 : (mI (sM (sM μ 20 3 (mI μ 20 2)) 21 3 (mI (sM μ 20 3 (mI μ 20 2)) 21 2)) 20 1) = (kI (sI (sI σ 5 3 (kI σ 5 2)) 7 3 (kI (sI σ 5 3 (kI σ 5 2)) 7 2)) 5 1) := by first | exact a0.1.symm | exact a1.1.symm | exact a2.1.symm
    by_cases c1 : rank ≤ (kI (sI (sI σ 5 3 (kI σ 5 2)) 7 3 (kI (sI σ 5 3 (kI σ 5 2)) 7 2)) 5 1)
    · rw [if_pos c1, if_pos (show rank ≤ (mI (sM (sM μ 20 3 (mI μ 20 2)) 21 3 (mI (sM μ 20 3 (mI μ 20 2)) 21 2)) 20 1) by rw [e1]; exact c1)]
      refine ⟨?_, ?_, fun f k hf => ?_⟩
      · skip
        refine kr_qupd h hxq (by decide) (fun f i h1 h2 h3 => ?_) (fun _ _ => rfl) (fun f i h1 h2 => ?_) ⟨4, by decide, ?_, ?_, fun i hi => ?_⟩
        · rw [kI_n (by omega), kI_n (by omega), kI_n (by omega), kI_n (by omega), kI_n (by omega)]
        · rw [mI_n (by omega), mI_n (by omega), mI_n (by omega), mI_n (by omega), mI_n (by omega)]
        · exact (show _ = kI σ 9 0 + 1 from rfl).trans (by rw [hs]; decide)
        · exact (show _ = mI μ 19 0 + 1 from rfl).trans (by rw [j3]; decide)
        · rcases (show i = 0 ∨ i = 1 ∨ i = 2 ∨ i = 3 by omega) with rfl | rfl | rfl | rfl
          · exact ⟨by first | rfl | exact a0.1 | exact a1.1 | exact a2.1, by first | rfl | exact a0.2 | exact a1.2 | exact a2.2⟩
          · exact ⟨by first | rfl | exact a0.1 | exact a1.1 | exact a2.1, by first | rfl | exact a0.2 | exact a1.2 | exact a2.2⟩
          · exact ⟨by first | rfl | exact a0.1 | exact a1.1 | exact a2.1, by first | rfl | exact a0.2 | exact a1.2 | exact a2.2⟩
          · exact ⟨by first | rfl | exact a0.1 | exact a1.1 | exact a2.1, by first | rfl | exact a0.2 | exact a1.2 | exact a2.2⟩
      · exact (show _ = kI σ 9 0 + 1 from rfl).trans (by rw [hs]; decide)
      · rw [kI_n (by omega), kI_n (by omega), kI_n (by omega), kI_n (by omega), kI_n (by omega)]
    · rw [if_neg c1, if_neg (show ¬ rank ≤ (mI (sM (sM μ 20 3 (mI μ 20 2)) 21 3 (mI (sM μ 20 3 (mI μ 20 2)) 21 2)) 20 1) by rw [e1]; exact c1)]
      have e2 : (mI (sM (sM (sM (sM μ 20 3 (mI μ 20 2)) 21 3 (mI (sM μ 20 3 (mI μ 20 2)) 21 2)) 20 2 (mI (sM (sM μ 20 3 (mI μ 20 2)) 21 3 (mI (sM μ 20 3 (mI μ 20 2)) 21 2)) 20 1)) 21 2 (mI (sM (sM (sM μ 20 3 (mI μ 20 2)) 21 3 (mI (sM μ 20 3 (mI μ 20 2)) 21 2)) 20 2 (mI (sM (sM μ 20 3 (mI μ 20 2)) 21 3 (mI (sM μ 20 3 (mI μ 20 2)) 21 2)) 20 1)) 21 1)) 20 0) = (kI (sI (sI (sI (sI σ 5 3 (kI σ 5 2)) 7 3 (kI (sI σ 5 3 (kI σ 5 2)) 7 2)) 5 2 (kI (sI (sI σ 5 3 (kI σ 5 2)) 7 3 (kI (sI σ 5 3 (kI σ 5 2)) 7 2)) 5 1)) 7 2 (kI (sI (sI (sI σ 5 3 (kI σ 5 2)) 7 3 (kI (sI σ 5 3 (kI σ 5 2)) 7 2)) 5 2 (kI (sI (sI σ 5 3 (kI σ 5 2)) 7 3 (kI (sI σ 5 3 (kI σ 5 2)) 7 2)) 5 1)) 7 1)) 5 0) := by first | exact a0.1.symm | exact a1.1.symm | exact a2.1.symm
      by_cases c2 : rank ≤ (kI (sI (sI (sI (sI σ 5 3 (kI σ 5 2)) 7 3 (kI (sI σ 5 3 (kI σ 5 2)) 7 2)) 5 2 (kI (sI (sI σ 5 3 (kI σ 5 2)) 7 3 (kI (sI σ 5 3 (kI σ 5 2)) 7 2)) 5 1)) 7 2 (kI (sI (sI (sI σ 5 3 (kI σ 5 2)) 7 3 (kI (sI σ 5 3 (kI σ 5 2)) 7 2)) 5 2 (kI (sI (sI σ 5 3 (kI σ 5 2)) 7 3 (kI (sI σ 5 3 (kI σ 5 2)) 7 2)) 5 1)) 7 1)) 5 0)
      · rw [if_pos c2, if_pos (show rank ≤ (mI (sM (sM (sM (sM μ 20 3 (mI μ 20 2)) 21 3 (mI (sM μ 20 3 (mI μ 20 2)) 21 2)) 20 2 (mI (sM (sM μ 20 3 (mI μ 20 2)) 21 3 (mI (sM μ 20 3 (mI μ 20 2)) 21 2)) 20 1)) 21 2 (mI (sM (sM (sM μ 20 3 (mI μ 20 2)) 21 3 (mI (sM μ 20 3 (mI μ 20 2)) 21 2)) 20 2 (mI (sM (sM μ 20 3 (mI μ 20 2)) 21 3 (mI (sM μ 20 3 (mI μ 20 2)) 21 2)) 20 1)) 21 1)) 20 0) by rw [e2]; exact c2)]
        refine ⟨?_, ?_, fun f k hf => ?_⟩
        · skip
          refine kr_qupd h hxq (by decide) (fun f i h1 h2 h3 => ?_) (fun _ _ => rfl) (fun f i h1 h2 => ?_) ⟨4, by decide, ?_, ?_, fun i hi => ?_⟩
          · rw [kI_n (by omega), kI_n (by omega), kI_n (by omega), kI_n (by omega), kI_n (by omega), kI_n (by omega), kI_n (by omega)]
          · rw [mI_n (by omega), mI_n (by omega), mI_n (by omega), mI_n (by omega), mI_n (by omega), mI_n (by omega), mI_n (by omega)]
          · exact (show _ = kI σ 9 0 + 1 from rfl).trans (by rw [hs]; decide)
          · exact (show _ = mI μ 19 0 + 1 from rfl).trans (by rw [j3]; decide)
          · rcases (show i = 0 ∨ i = 1 ∨ i = 2 ∨ i = 3 by omega) with rfl | rfl | rfl | rfl
            · exact ⟨by first | rfl | exact a0.1 | exact a1.1 | exact a2.1, by first | rfl | exact a0.2 | exact a1.2 | exact a2.2⟩
            · exact ⟨by first | rfl | exact a0.1 | exact a1.1 | exact a2.1, by first | rfl | exact a0.2 | exact a1.2 | exact a2.2⟩
            · exact ⟨by first | rfl | exact a0.1 | exact a1.1 | exact a2.1, by first | rfl | exact a0.2 | exact a1.2 | exact a2.2⟩
            · exact ⟨by first | rfl | exact a0.1 | exact a1.1 | exact a2.1, by first | rfl | exact a0.2 | exact a1.2 | exact a2.2⟩
        · exact (show _ = kI σ 9 0 + 1 from rfl).trans (by rw [hs]; decide)
        · rw [kI_n (by omega), kI_n (by omega), kI_n (by omega), kI_n (by omega), kI_n (by omega), kI_n (by omega), kI_n (by omega)]
      · rw [if_neg c2, if_neg (show ¬ rank ≤ (mI (sM (sM (sM (sM μ 20 3 (mI μ 20 2)) 21 3 (mI (sM μ 20 3 (mI μ 20 2)) 21 2)) 20 2 (mI (sM (sM μ 20 3 (mI μ 20 2)) 21 3 (mI (sM μ 20 3 (mI μ 20 2)) 21 2)) 20 1)) 21 2 (mI (sM (sM (sM μ 20 3 (mI μ 20 2)) 21 3 (mI (sM μ 20 3 (mI μ 20 2)) 21 2)) 20 2 (mI (sM (sM μ 20 3 (mI μ 20 2)) 21 3 (mI (sM μ 20 3 (mI μ 20 2)) 21 2)) 20 1)) 21 1)) 20 0) by rw [e2]; exact c2)]
        refine ⟨?_, ?_, fun f k hf => ?_⟩
        · skip
          refine kr_qupd h hxq (by decide) (fun f i h1 h2 h3 => ?_) (fun _ _ => rfl) (fun f i h1 h2 => ?_) ⟨4, by decide, ?_, ?_, fun i hi => ?_⟩
          · rw [kI_n (by omega), kI_n (by omega), kI_n (by omega), kI_n (by omega), kI_n (by omega), kI_n (by omega), kI_n (by omega), kI_n (by omega), kI_n (by omega)]
          · rw [mI_n (by omega), mI_n (by omega), mI_n (by omega), mI_n (by omega), mI_n (by omega), mI_n (by omega), mI_n (by omega), mI_n (by omega), mI_n (by omega)]
          · exact (show _ = kI σ 9 0 + 1 from rfl).trans (by rw [hs]; decide)
          · exact (show _ = mI μ 19 0 + 1 from rfl).trans (by rw [j3]; decide)
          · rcases (show i = 0 ∨ i = 1 ∨ i = 2 ∨ i = 3 by omega) with rfl | rfl | rfl | rfl
            · exact ⟨by first | rfl | exact a0.1 | exact a1.1 | exact a2.1, by first | rfl | exact a0.2 | exact a1.2 | exact a2.2⟩
            · exact ⟨by first | rfl | exact a0.1 | exact a1.1 | exact a2.1, by first | rfl | exact a0.2 | exact a1.2 | exact a2.2⟩
            · exact ⟨by first | rfl | exact a0.1 | exact a1.1 | exact a2.1, by first | rfl | exact a0.2 | exact a1.2 | exact a2.2⟩
            · exact ⟨by first | rfl | exact a0.1 | exact a1.1 | exact a2.1, by first | rfl | exact a0.2 | exact a1.2 | exact a2.2⟩
        · exact (show _ = kI σ 9 0 + 1 from rfl).trans (by rw [hs]; decide)
        · rw [kI_n (by omega), kI_n (by omega), kI_n (by omega), kI_n (by omega), kI_n (by omega), kI_n (by omega), kI_n (by omega), kI_n (by omega), kI_n (by omega)]
set_option maxHeartbeats 4000000 in
theorem kr_ins_1_0 {N B x : Nat} {σ : kx_S} {μ : km_S} (rank value : Int32) (h : kr N B x σ μ) (hxq : x = 2 ∨ x = 1) (hs : kI σ 9 1 = nI 0) : kr N B 1 (xf_insert_1 σ rank value) (mf_comeIn μ 1 rank value) ∧ kI (xf_insert_1 σ rank value) 9 1 = nI 1 ∧ ∀ f k, 10 ≤ f → kI (xf_insert_1 σ rank value) f k = kI σ f k := by
  obtain ⟨j, j1, j2, j3, j4⟩ := h.2.2.2.1 1 (by decide)
  obtain rfl : j = 0 := (nI_eq (by omega) (by omega)).mp (j2.symm.trans hs)
  have full : xf_isFull_1 σ = (0, σ) := by unfold xf_isFull_1; rw [if_neg (by rw [hs]; decide)]
  rw [xf_insert_1, kk_b_eq full, if_pos rfl, if_pos (show kI σ 9 1 = 0 by rw [hs]; decide)]
  rw [mf_comeIn, if_neg (show ¬ (1 : Int32) = 0 by decide), if_pos (show mI μ 19 1 = 0 by rw [j3]; decide)]
  refine ⟨?_, ?_, fun f k hf => ?_⟩
  · skip
    refine kr_qupd h hxq (by decide) (fun f i h1 h2 h3 => ?_) (fun _ _ => rfl) (fun f i h1 h2 => ?_) ⟨1, by decide, ?_, ?_, fun i hi => ?_⟩
    · rw [kI_n (by omega), kI_n (by omega), kI_n (by omega)]
    · rw [mI_n (by omega), mI_n (by omega), mI_n (by omega)]
    · exact (show _ = kI σ 9 1 + 1 from rfl).trans (by rw [hs]; decide)
    · exact (show _ = mI μ 19 1 + 1 from rfl).trans (by rw [j3]; decide)
    · rcases (show i = 0 by omega) with rfl
      exact ⟨by first | rfl, by first | rfl⟩
  · exact (show _ = kI σ 9 1 + 1 from rfl).trans (by rw [hs]; decide)
  · rw [kI_n (by omega), kI_n (by omega), kI_n (by omega)]
set_option maxHeartbeats 4000000 in
theorem kr_ins_1_1 {N B x : Nat} {σ : kx_S} {μ : km_S} (rank value : Int32) (h : kr N B x σ μ) (hxq : x = 2 ∨ x = 1) (hs : kI σ 9 1 = nI 1) : kr N B 1 (xf_insert_1 σ rank value) (mf_comeIn μ 1 rank value) ∧ kI (xf_insert_1 σ rank value) 9 1 = nI 2 ∧ ∀ f k, 10 ≤ f → kI (xf_insert_1 σ rank value) f k = kI σ f k := by
  obtain ⟨j, j1, j2, j3, j4⟩ := h.2.2.2.1 1 (by decide)
  obtain rfl : j = 1 := (nI_eq (by omega) (by omega)).mp (j2.symm.trans hs)
  have a0 := j4 0 (by decide)
  have full : xf_isFull_1 σ = (0, σ) := by unfold xf_isFull_1; rw [if_neg (by rw [hs]; decide)]
  rw [xf_insert_1, kk_b_eq full, if_pos rfl, if_neg (show ¬ kI σ 9 1 = 0 by rw [hs]; decide), if_pos (show kI σ 9 1 = 1 by rw [hs]; decide)]
  rw [mf_comeIn, if_neg (show ¬ (1 : Int32) = 0 by decide), if_neg (show ¬ mI μ 19 1 = 0 by rw [j3]; decide), if_pos (show mI μ 19 1 = 1 by rw [j3]; decide)]
  have e0 : (mI μ 20 4) = (kI σ 6 0) := by first | exact a0.1.symm
  by_cases c0 : rank ≤ (kI σ 6 0)
  · rw [if_pos c0, if_pos (show rank ≤ (mI μ 20 4) by rw [e0]; exact c0)]
    refine ⟨?_, ?_, fun f k hf => ?_⟩
    · skip
      refine kr_qupd h hxq (by decide) (fun f i h1 h2 h3 => ?_) (fun _ _ => rfl) (fun f i h1 h2 => ?_) ⟨2, by decide, ?_, ?_, fun i hi => ?_⟩
      · rw [kI_n (by omega), kI_n (by omega), kI_n (by omega)]
      · rw [mI_n (by omega), mI_n (by omega), mI_n (by omega)]
      · exact (show _ = kI σ 9 1 + 1 from rfl).trans (by rw [hs]; decide)
      · exact (show _ = mI μ 19 1 + 1 from rfl).trans (by rw [j3]; decide)
      · rcases (show i = 0 ∨ i = 1 by omega) with rfl | rfl
        · exact ⟨by first | rfl | exact a0.1, by first | rfl | exact a0.2⟩
        · exact ⟨by first | rfl | exact a0.1, by first | rfl | exact a0.2⟩
    · exact (show _ = kI σ 9 1 + 1 from rfl).trans (by rw [hs]; decide)
    · rw [kI_n (by omega), kI_n (by omega), kI_n (by omega)]
  · rw [if_neg c0, if_neg (show ¬ rank ≤ (mI μ 20 4) by rw [e0]; exact c0)]
    refine ⟨?_, ?_, fun f k hf => ?_⟩
    · skip
      refine kr_qupd h hxq (by decide) (fun f i h1 h2 h3 => ?_) (fun _ _ => rfl) (fun f i h1 h2 => ?_) ⟨2, by decide, ?_, ?_, fun i hi => ?_⟩
      · rw [kI_n (by omega), kI_n (by omega), kI_n (by omega), kI_n (by omega), kI_n (by omega)]
      · rw [mI_n (by omega), mI_n (by omega), mI_n (by omega), mI_n (by omega), mI_n (by omega)]
      · exact (show _ = kI σ 9 1 + 1 from rfl).trans (by rw [hs]; decide)
      · exact (show _ = mI μ 19 1 + 1 from rfl).trans (by rw [j3]; decide)
      · rcases (show i = 0 ∨ i = 1 by omega) with rfl | rfl
        · exact ⟨by first | rfl | exact a0.1, by first | rfl | exact a0.2⟩
        · exact ⟨by first | rfl | exact a0.1, by first | rfl | exact a0.2⟩
    · exact (show _ = kI σ 9 1 + 1 from rfl).trans (by rw [hs]; decide)
    · rw [kI_n (by omega), kI_n (by omega), kI_n (by omega), kI_n (by omega), kI_n (by omega)]
set_option maxHeartbeats 4000000 in
theorem kr_ins_1_2 {N B x : Nat} {σ : kx_S} {μ : km_S} (rank value : Int32) (h : kr N B x σ μ) (hxq : x = 2 ∨ x = 1) (hs : kI σ 9 1 = nI 2) : kr N B 1 (xf_insert_1 σ rank value) (mf_comeIn μ 1 rank value) ∧ kI (xf_insert_1 σ rank value) 9 1 = nI 3 ∧ ∀ f k, 10 ≤ f → kI (xf_insert_1 σ rank value) f k = kI σ f k := by
  obtain ⟨j, j1, j2, j3, j4⟩ := h.2.2.2.1 1 (by decide)
  obtain rfl : j = 2 := (nI_eq (by omega) (by omega)).mp (j2.symm.trans hs)
  have a0 := j4 0 (by decide)
  have a1 := j4 1 (by decide)
  have full : xf_isFull_1 σ = (0, σ) := by unfold xf_isFull_1; rw [if_neg (by rw [hs]; decide)]
  rw [xf_insert_1, kk_b_eq full, if_pos rfl, if_neg (show ¬ kI σ 9 1 = 0 by rw [hs]; decide), if_neg (show ¬ kI σ 9 1 = 1 by rw [hs]; decide), if_pos (show kI σ 9 1 = 2 by rw [hs]; decide)]
  rw [mf_comeIn, if_neg (show ¬ (1 : Int32) = 0 by decide), if_neg (show ¬ mI μ 19 1 = 0 by rw [j3]; decide), if_neg (show ¬ mI μ 19 1 = 1 by rw [j3]; decide), if_pos (show mI μ 19 1 = 2 by rw [j3]; decide)]
  have e0 : (mI μ 20 5) = (kI σ 6 1) := by first | exact a0.1.symm | exact a1.1.symm
  by_cases c0 : rank ≤ (kI σ 6 1)
  · rw [if_pos c0, if_pos (show rank ≤ (mI μ 20 5) by rw [e0]; exact c0)]
    refine ⟨?_, ?_, fun f k hf => ?_⟩
    · skip
      refine kr_qupd h hxq (by decide) (fun f i h1 h2 h3 => ?_) (fun _ _ => rfl) (fun f i h1 h2 => ?_) ⟨3, by decide, ?_, ?_, fun i hi => ?_⟩
      · rw [kI_n (by omega), kI_n (by omega), kI_n (by omega)]
      · rw [mI_n (by omega), mI_n (by omega), mI_n (by omega)]
      · exact (show _ = kI σ 9 1 + 1 from rfl).trans (by rw [hs]; decide)
      · exact (show _ = mI μ 19 1 + 1 from rfl).trans (by rw [j3]; decide)
      · rcases (show i = 0 ∨ i = 1 ∨ i = 2 by omega) with rfl | rfl | rfl
        · exact ⟨by first | rfl | exact a0.1 | exact a1.1, by first | rfl | exact a0.2 | exact a1.2⟩
        · exact ⟨by first | rfl | exact a0.1 | exact a1.1, by first | rfl | exact a0.2 | exact a1.2⟩
        · exact ⟨by first | rfl | exact a0.1 | exact a1.1, by first | rfl | exact a0.2 | exact a1.2⟩
    · exact (show _ = kI σ 9 1 + 1 from rfl).trans (by rw [hs]; decide)
    · rw [kI_n (by omega), kI_n (by omega), kI_n (by omega)]
  · rw [if_neg c0, if_neg (show ¬ rank ≤ (mI μ 20 5) by rw [e0]; exact c0)]
    have e1 : (mI (sM (sM μ 20 6 (mI μ 20 5)) 21 6 (mI (sM μ 20 6 (mI μ 20 5)) 21 5)) 20 4) = (kI (sI (sI σ 6 2 (kI σ 6 1)) 8 2 (kI (sI σ 6 2 (kI σ 6 1)) 8 1)) 6 0) := by first | exact a0.1.symm | exact a1.1.symm
    by_cases c1 : rank ≤ (kI (sI (sI σ 6 2 (kI σ 6 1)) 8 2 (kI (sI σ 6 2 (kI σ 6 1)) 8 1)) 6 0)
    · rw [if_pos c1, if_pos (show rank ≤ (mI (sM (sM μ 20 6 (mI μ 20 5)) 21 6 (mI (sM μ 20 6 (mI μ 20 5)) 21 5)) 20 4) by rw [e1]; exact c1)]
      refine ⟨?_, ?_, fun f k hf => ?_⟩
      · skip
        refine kr_qupd h hxq (by decide) (fun f i h1 h2 h3 => ?_) (fun _ _ => rfl) (fun f i h1 h2 => ?_) ⟨3, by decide, ?_, ?_, fun i hi => ?_⟩
        · rw [kI_n (by omega), kI_n (by omega), kI_n (by omega), kI_n (by omega), kI_n (by omega)]
        · rw [mI_n (by omega), mI_n (by omega), mI_n (by omega), mI_n (by omega), mI_n (by omega)]
        · exact (show _ = kI σ 9 1 + 1 from rfl).trans (by rw [hs]; decide)
        · exact (show _ = mI μ 19 1 + 1 from rfl).trans (by rw [j3]; decide)
        · rcases (show i = 0 ∨ i = 1 ∨ i = 2 by omega) with rfl | rfl | rfl
          · exact ⟨by first | rfl | exact a0.1 | exact a1.1, by first | rfl | exact a0.2 | exact a1.2⟩
          · exact ⟨by first | rfl | exact a0.1 | exact a1.1, by first | rfl | exact a0.2 | exact a1.2⟩
          · exact ⟨by first | rfl | exact a0.1 | exact a1.1, by first | rfl | exact a0.2 | exact a1.2⟩
      · exact (show _ = kI σ 9 1 + 1 from rfl).trans (by rw [hs]; decide)
      · rw [kI_n (by omega), kI_n (by omega), kI_n (by omega), kI_n (by omega), kI_n (by omega)]
    · rw [if_neg c1, if_neg (show ¬ rank ≤ (mI (sM (sM μ 20 6 (mI μ 20 5)) 21 6 (mI (sM μ 20 6 (mI μ 20 5)) 21 5)) 20 4) by rw [e1]; exact c1)]
      refine ⟨?_, ?_, fun f k hf => ?_⟩
      · skip
        refine kr_qupd h hxq (by decide) (fun f i h1 h2 h3 => ?_) (fun _ _ => rfl) (fun f i h1 h2 => ?_) ⟨3, by decide, ?_, ?_, fun i hi => ?_⟩
        · rw [kI_n (by omega), kI_n (by omega), kI_n (by omega), kI_n (by omega), kI_n (by omega), kI_n (by omega), kI_n (by omega)]
        · rw [mI_n (by omega), mI_n (by omega), mI_n (by omega), mI_n (by omega), mI_n (by omega), mI_n (by omega), mI_n (by omega)]
        · exact (show _ = kI σ 9 1 + 1 from rfl).trans (by rw [hs]; decide)
        · exact (show _ = mI μ 19 1 + 1 from rfl).trans (by rw [j3]; decide)
        · rcases (show i = 0 ∨ i = 1 ∨ i = 2 by omega) with rfl | rfl | rfl
          · exact ⟨by first | rfl | exact a0.1 | exact a1.1, by first | rfl | exact a0.2 | exact a1.2⟩
          · exact ⟨by first | rfl | exact a0.1 | exact a1.1, by first | rfl | exact a0.2 | exact a1.2⟩
          · exact ⟨by first | rfl | exact a0.1 | exact a1.1, by first | rfl | exact a0.2 | exact a1.2⟩
      · exact (show _ = kI σ 9 1 + 1 from rfl).trans (by rw [hs]; decide)
      · rw [kI_n (by omega), kI_n (by omega), kI_n (by omega), kI_n (by omega), kI_n (by omega), kI_n (by omega), kI_n (by omega)]
set_option maxHeartbeats 4000000 in
theorem kr_ins_1_3 {N B x : Nat} {σ : kx_S} {μ : km_S} (rank value : Int32) (h : kr N B x σ μ) (hxq : x = 2 ∨ x = 1) (hs : kI σ 9 1 = nI 3) : kr N B 1 (xf_insert_1 σ rank value) (mf_comeIn μ 1 rank value) ∧ kI (xf_insert_1 σ rank value) 9 1 = nI 4 ∧ ∀ f k, 10 ≤ f → kI (xf_insert_1 σ rank value) f k = kI σ f k := by
  obtain ⟨j, j1, j2, j3, j4⟩ := h.2.2.2.1 1 (by decide)
  obtain rfl : j = 3 := (nI_eq (by omega) (by omega)).mp (j2.symm.trans hs)
  have a0 := j4 0 (by decide)
  have a1 := j4 1 (by decide)
  have a2 := j4 2 (by decide)
  have full : xf_isFull_1 σ = (0, σ) := by unfold xf_isFull_1; rw [if_neg (by rw [hs]; decide)]
  rw [xf_insert_1, kk_b_eq full, if_pos rfl, if_neg (show ¬ kI σ 9 1 = 0 by rw [hs]; decide), if_neg (show ¬ kI σ 9 1 = 1 by rw [hs]; decide), if_neg (show ¬ kI σ 9 1 = 2 by rw [hs]; decide)]
  rw [mf_comeIn, if_neg (show ¬ (1 : Int32) = 0 by decide), if_neg (show ¬ mI μ 19 1 = 0 by rw [j3]; decide), if_neg (show ¬ mI μ 19 1 = 1 by rw [j3]; decide), if_neg (show ¬ mI μ 19 1 = 2 by rw [j3]; decide)]
  have e0 : (mI μ 20 6) = (kI σ 6 2) := by first | exact a0.1.symm | exact a1.1.symm | exact a2.1.symm
  by_cases c0 : rank ≤ (kI σ 6 2)
  · rw [if_pos c0, if_pos (show rank ≤ (mI μ 20 6) by rw [e0]; exact c0)]
    refine ⟨?_, ?_, fun f k hf => ?_⟩
    · skip
      refine kr_qupd h hxq (by decide) (fun f i h1 h2 h3 => ?_) (fun _ _ => rfl) (fun f i h1 h2 => ?_) ⟨4, by decide, ?_, ?_, fun i hi => ?_⟩
      · rw [kI_n (by omega), kI_n (by omega), kI_n (by omega)]
      · rw [mI_n (by omega), mI_n (by omega), mI_n (by omega)]
      · exact (show _ = kI σ 9 1 + 1 from rfl).trans (by rw [hs]; decide)
      · exact (show _ = mI μ 19 1 + 1 from rfl).trans (by rw [j3]; decide)
      · rcases (show i = 0 ∨ i = 1 ∨ i = 2 ∨ i = 3 by omega) with rfl | rfl | rfl | rfl
        · exact ⟨by first | rfl | exact a0.1 | exact a1.1 | exact a2.1, by first | rfl | exact a0.2 | exact a1.2 | exact a2.2⟩
        · exact ⟨by first | rfl | exact a0.1 | exact a1.1 | exact a2.1, by first | rfl | exact a0.2 | exact a1.2 | exact a2.2⟩
        · exact ⟨by first | rfl | exact a0.1 | exact a1.1 | exact a2.1, by first | rfl | exact a0.2 | exact a1.2 | exact a2.2⟩
        · exact ⟨by first | rfl | exact a0.1 | exact a1.1 | exact a2.1, by first | rfl | exact a0.2 | exact a1.2 | exact a2.2⟩
    · exact (show _ = kI σ 9 1 + 1 from rfl).trans (by rw [hs]; decide)
    · rw [kI_n (by omega), kI_n (by omega), kI_n (by omega)]
  · rw [if_neg c0, if_neg (show ¬ rank ≤ (mI μ 20 6) by rw [e0]; exact c0)]
    have e1 : (mI (sM (sM μ 20 7 (mI μ 20 6)) 21 7 (mI (sM μ 20 7 (mI μ 20 6)) 21 6)) 20 5) = (kI (sI (sI σ 6 3 (kI σ 6 2)) 8 3 (kI (sI σ 6 3 (kI σ 6 2)) 8 2)) 6 1) := by first | exact a0.1.symm | exact a1.1.symm | exact a2.1.symm
    by_cases c1 : rank ≤ (kI (sI (sI σ 6 3 (kI σ 6 2)) 8 3 (kI (sI σ 6 3 (kI σ 6 2)) 8 2)) 6 1)
    · rw [if_pos c1, if_pos (show rank ≤ (mI (sM (sM μ 20 7 (mI μ 20 6)) 21 7 (mI (sM μ 20 7 (mI μ 20 6)) 21 6)) 20 5) by rw [e1]; exact c1)]
      refine ⟨?_, ?_, fun f k hf => ?_⟩
      · skip
        refine kr_qupd h hxq (by decide) (fun f i h1 h2 h3 => ?_) (fun _ _ => rfl) (fun f i h1 h2 => ?_) ⟨4, by decide, ?_, ?_, fun i hi => ?_⟩
        · rw [kI_n (by omega), kI_n (by omega), kI_n (by omega), kI_n (by omega), kI_n (by omega)]
        · rw [mI_n (by omega), mI_n (by omega), mI_n (by omega), mI_n (by omega), mI_n (by omega)]
        · exact (show _ = kI σ 9 1 + 1 from rfl).trans (by rw [hs]; decide)
        · exact (show _ = mI μ 19 1 + 1 from rfl).trans (by rw [j3]; decide)
        · rcases (show i = 0 ∨ i = 1 ∨ i = 2 ∨ i = 3 by omega) with rfl | rfl | rfl | rfl
          · exact ⟨by first | rfl | exact a0.1 | exact a1.1 | exact a2.1, by first | rfl | exact a0.2 | exact a1.2 | exact a2.2⟩
          · exact ⟨by first | rfl | exact a0.1 | exact a1.1 | exact a2.1, by first | rfl | exact a0.2 | exact a1.2 | exact a2.2⟩
          · exact ⟨by first | rfl | exact a0.1 | exact a1.1 | exact a2.1, by first | rfl | exact a0.2 | exact a1.2 | exact a2.2⟩
          · exact ⟨by first | rfl | exact a0.1 | exact a1.1 | exact a2.1, by first | rfl | exact a0.2 | exact a1.2 | exact a2.2⟩
      · exact (show _ = kI σ 9 1 + 1 from rfl).trans (by rw [hs]; decide)
      · rw [kI_n (by omega), kI_n (by omega), kI_n (by omega), kI_n (by omega), kI_n (by omega)]
    · rw [if_neg c1, if_neg (show ¬ rank ≤ (mI (sM (sM μ 20 7 (mI μ 20 6)) 21 7 (mI (sM μ 20 7 (mI μ 20 6)) 21 6)) 20 5) by rw [e1]; exact c1)]
      have e2 : (mI (sM (sM (sM (sM μ 20 7 (mI μ 20 6)) 21 7 (mI (sM μ 20 7 (mI μ 20 6)) 21 6)) 20 6 (mI (sM (sM μ 20 7 (mI μ 20 6)) 21 7 (mI (sM μ 20 7 (mI μ 20 6)) 21 6)) 20 5)) 21 6 (mI (sM (sM (sM μ 20 7 (mI μ 20 6)) 21 7 (mI (sM μ 20 7 (mI μ 20 6)) 21 6)) 20 6 (mI (sM (sM μ 20 7 (mI μ 20 6)) 21 7 (mI (sM μ 20 7 (mI μ 20 6)) 21 6)) 20 5)) 21 5)) 20 4) = (kI (sI (sI (sI (sI σ 6 3 (kI σ 6 2)) 8 3 (kI (sI σ 6 3 (kI σ 6 2)) 8 2)) 6 2 (kI (sI (sI σ 6 3 (kI σ 6 2)) 8 3 (kI (sI σ 6 3 (kI σ 6 2)) 8 2)) 6 1)) 8 2 (kI (sI (sI (sI σ 6 3 (kI σ 6 2)) 8 3 (kI (sI σ 6 3 (kI σ 6 2)) 8 2)) 6 2 (kI (sI (sI σ 6 3 (kI σ 6 2)) 8 3 (kI (sI σ 6 3 (kI σ 6 2)) 8 2)) 6 1)) 8 1)) 6 0) := by first | exact a0.1.symm | exact a1.1.symm | exact a2.1.symm
      by_cases c2 : rank ≤ (kI (sI (sI (sI (sI σ 6 3 (kI σ 6 2)) 8 3 (kI (sI σ 6 3 (kI σ 6 2)) 8 2)) 6 2 (kI (sI (sI σ 6 3 (kI σ 6 2)) 8 3 (kI (sI σ 6 3 (kI σ 6 2)) 8 2)) 6 1)) 8 2 (kI (sI (sI (sI σ 6 3 (kI σ 6 2)) 8 3 (kI (sI σ 6 3 (kI σ 6 2)) 8 2)) 6 2 (kI (sI (sI σ 6 3 (kI σ 6 2)) 8 3 (kI (sI σ 6 3 (kI σ 6 2)) 8 2)) 6 1)) 8 1)) 6 0)
      · rw [if_pos c2, if_pos (show rank ≤ (mI (sM (sM (sM (sM μ 20 7 (mI μ 20 6)) 21 7 (mI (sM μ 20 7 (mI μ 20 6)) 21 6)) 20 6 (mI (sM (sM μ 20 7 (mI μ 20 6)) 21 7 (mI (sM μ 20 7 (mI μ 20 6)) 21 6)) 20 5)) 21 6 (mI (sM (sM (sM μ 20 7 (mI μ 20 6)) 21 7 (mI (sM μ 20 7 (mI μ 20 6)) 21 6)) 20 6 (mI (sM (sM μ 20 7 (mI μ 20 6)) 21 7 (mI (sM μ 20 7 (mI μ 20 6)) 21 6)) 20 5)) 21 5)) 20 4) by rw [e2]; exact c2)]
        refine ⟨?_, ?_, fun f k hf => ?_⟩
        · skip
          refine kr_qupd h hxq (by decide) (fun f i h1 h2 h3 => ?_) (fun _ _ => rfl) (fun f i h1 h2 => ?_) ⟨4, by decide, ?_, ?_, fun i hi => ?_⟩
          · rw [kI_n (by omega), kI_n (by omega), kI_n (by omega), kI_n (by omega), kI_n (by omega), kI_n (by omega), kI_n (by omega)]
          · rw [mI_n (by omega), mI_n (by omega), mI_n (by omega), mI_n (by omega), mI_n (by omega), mI_n (by omega), mI_n (by omega)]
          · exact (show _ = kI σ 9 1 + 1 from rfl).trans (by rw [hs]; decide)
          · exact (show _ = mI μ 19 1 + 1 from rfl).trans (by rw [j3]; decide)
          · rcases (show i = 0 ∨ i = 1 ∨ i = 2 ∨ i = 3 by omega) with rfl | rfl | rfl | rfl
            · exact ⟨by first | rfl | exact a0.1 | exact a1.1 | exact a2.1, by first | rfl | exact a0.2 | exact a1.2 | exact a2.2⟩
            · exact ⟨by first | rfl | exact a0.1 | exact a1.1 | exact a2.1, by first | rfl | exact a0.2 | exact a1.2 | exact a2.2⟩
            · exact ⟨by first | rfl | exact a0.1 | exact a1.1 | exact a2.1, by first | rfl | exact a0.2 | exact a1.2 | exact a2.2⟩
            · exact ⟨by first | rfl | exact a0.1 | exact a1.1 | exact a2.1, by first | rfl | exact a0.2 | exact a1.2 | exact a2.2⟩
        · exact (show _ = kI σ 9 1 + 1 from rfl).trans (by rw [hs]; decide)
        · rw [kI_n (by omega), kI_n (by omega), kI_n (by omega), kI_n (by omega), kI_n (by omega), kI_n (by omega), kI_n (by omega)]
      · rw [if_neg c2, if_neg (show ¬ rank ≤ (mI (sM (sM (sM (sM μ 20 7 (mI μ 20 6)) 21 7 (mI (sM μ 20 7 (mI μ 20 6)) 21 6)) 20 6 (mI (sM (sM μ 20 7 (mI μ 20 6)) 21 7 (mI (sM μ 20 7 (mI μ 20 6)) 21 6)) 20 5)) 21 6 (mI (sM (sM (sM μ 20 7 (mI μ 20 6)) 21 7 (mI (sM μ 20 7 (mI μ 20 6)) 21 6)) 20 6 (mI (sM (sM μ 20 7 (mI μ 20 6)) 21 7 (mI (sM μ 20 7 (mI μ 20 6)) 21 6)) 20 5)) 21 5)) 20 4) by rw [e2]; exact c2)]
        refine ⟨?_, ?_, fun f k hf => ?_⟩
        · skip
          refine kr_qupd h hxq (by decide) (fun f i h1 h2 h3 => ?_) (fun _ _ => rfl) (fun f i h1 h2 => ?_) ⟨4, by decide, ?_, ?_, fun i hi => ?_⟩
          · rw [kI_n (by omega), kI_n (by omega), kI_n (by omega), kI_n (by omega), kI_n (by omega), kI_n (by omega), kI_n (by omega), kI_n (by omega), kI_n (by omega)]
          · rw [mI_n (by omega), mI_n (by omega), mI_n (by omega), mI_n (by omega), mI_n (by omega), mI_n (by omega), mI_n (by omega), mI_n (by omega), mI_n (by omega)]
          · exact (show _ = kI σ 9 1 + 1 from rfl).trans (by rw [hs]; decide)
          · exact (show _ = mI μ 19 1 + 1 from rfl).trans (by rw [j3]; decide)
          · rcases (show i = 0 ∨ i = 1 ∨ i = 2 ∨ i = 3 by omega) with rfl | rfl | rfl | rfl
            · exact ⟨by first | rfl | exact a0.1 | exact a1.1 | exact a2.1, by first | rfl | exact a0.2 | exact a1.2 | exact a2.2⟩
            · exact ⟨by first | rfl | exact a0.1 | exact a1.1 | exact a2.1, by first | rfl | exact a0.2 | exact a1.2 | exact a2.2⟩
            · exact ⟨by first | rfl | exact a0.1 | exact a1.1 | exact a2.1, by first | rfl | exact a0.2 | exact a1.2 | exact a2.2⟩
            · exact ⟨by first | rfl | exact a0.1 | exact a1.1 | exact a2.1, by first | rfl | exact a0.2 | exact a1.2 | exact a2.2⟩
        · exact (show _ = kI σ 9 1 + 1 from rfl).trans (by rw [hs]; decide)
        · rw [kI_n (by omega), kI_n (by omega), kI_n (by omega), kI_n (by omega), kI_n (by omega), kI_n (by omega), kI_n (by omega), kI_n (by omega), kI_n (by omega)]
theorem kr_ins {N B x q j : Nat} {σ : kx_S} {μ : km_S} (rank value : Int32) (h : kr N B x σ μ) (hxq : x = 2 ∨ x = q) (hq : q < 2) (hj : j < 4) (hs : kI σ 9 q = nI j) : kr N B q (xf_insert σ q rank value) (mf_comeIn μ (nI q) rank value) ∧ kI (xf_insert σ q rank value) 9 q = nI (j + 1) ∧ ∀ f k, 10 ≤ f → kI (xf_insert σ q rank value) f k = kI σ f k := by
  rcases (show q = 0 ∨ q = 1 by omega) with rfl | rfl
  · rcases (show j = 0 ∨ j = 1 ∨ j = 2 ∨ j = 3 by omega) with rfl | rfl | rfl | rfl
    · exact kr_ins_0_0 rank value h hxq hs
    · exact kr_ins_0_1 rank value h hxq hs
    · exact kr_ins_0_2 rank value h hxq hs
    · exact kr_ins_0_3 rank value h hxq hs
  · rcases (show j = 0 ∨ j = 1 ∨ j = 2 ∨ j = 3 by omega) with rfl | rfl | rfl | rfl
    · exact kr_ins_1_0 rank value h hxq hs
    · exact kr_ins_1_1 rank value h hxq hs
    · exact kr_ins_1_2 rank value h hxq hs
    · exact kr_ins_1_3 rank value h hxq hs
end
section
/-! leaving a queue; send and receive -/
def mrem_0 (μ : km_S) (k : Nat) : km_S := sM (sM (sM (sM (sM (sM (sM (sM μ 11 k (mI μ 21 0)) 20 0 (mI (sM μ 11 k (mI μ 21 0)) 20 1)) 21 0 (mI (sM (sM μ 11 k (mI μ 21 0)) 20 0 (mI (sM μ 11 k (mI μ 21 0)) 20 1)) 21 1)) 20 1 (mI (sM (sM (sM μ 11 k (mI μ 21 0)) 20 0 (mI (sM μ 11 k (mI μ 21 0)) 20 1)) 21 0 (mI (sM (sM μ 11 k (mI μ 21 0)) 20 0 (mI (sM μ 11 k (mI μ 21 0)) 20 1)) 21 1)) 20 2)) 21 1 (mI (sM (sM (sM (sM μ 11 k (mI μ 21 0)) 20 0 (mI (sM μ 11 k (mI μ 21 0)) 20 1)) 21 0 (mI (sM (sM μ 11 k (mI μ 21 0)) 20 0 (mI (sM μ 11 k (mI μ 21 0)) 20 1)) 21 1)) 20 1 (mI (sM (sM (sM μ 11 k (mI μ 21 0)) 20 0 (mI (sM μ 11 k (mI μ 21 0)) 20 1)) 21 0 (mI (sM (sM μ 11 k (mI μ 21 0)) 20 0 (mI (sM μ 11 k (mI μ 21 0)) 20 1)) 21 1)) 20 2)) 21 2)) 20 2 (mI (sM (sM (sM (sM (sM μ 11 k (mI μ 21 0)) 20 0 (mI (sM μ 11 k (mI μ 21 0)) 20 1)) 21 0 (mI (sM (sM μ 11 k (mI μ 21 0)) 20 0 (mI (sM μ 11 k (mI μ 21 0)) 20 1)) 21 1)) 20 1 (mI (sM (sM (sM μ 11 k (mI μ 21 0)) 20 0 (mI (sM μ 11 k (mI μ 21 0)) 20 1)) 21 0 (mI (sM (sM μ 11 k (mI μ 21 0)) 20 0 (mI (sM μ 11 k (mI μ 21 0)) 20 1)) 21 1)) 20 2)) 21 1 (mI (sM (sM (sM (sM μ 11 k (mI μ 21 0)) 20 0 (mI (sM μ 11 k (mI μ 21 0)) 20 1)) 21 0 (mI (sM (sM μ 11 k (mI μ 21 0)) 20 0 (mI (sM μ 11 k (mI μ 21 0)) 20 1)) 21 1)) 20 1 (mI (sM (sM (sM μ 11 k (mI μ 21 0)) 20 0 (mI (sM μ 11 k (mI μ 21 0)) 20 1)) 21 0 (mI (sM (sM μ 11 k (mI μ 21 0)) 20 0 (mI (sM μ 11 k (mI μ 21 0)) 20 1)) 21 1)) 20 2)) 21 2)) 20 3)) 21 2 (mI (sM (sM (sM (sM (sM (sM μ 11 k (mI μ 21 0)) 20 0 (mI (sM μ 11 k (mI μ 21 0)) 20 1)) 21 0 (mI (sM (sM μ 11 k (mI μ 21 0)) 20 0 (mI (sM μ 11 k (mI μ 21 0)) 20 1)) 21 1)) 20 1 (mI (sM (sM (sM μ 11 k (mI μ 21 0)) 20 0 (mI (sM μ 11 k (mI μ 21 0)) 20 1)) 21 0 (mI (sM (sM μ 11 k (mI μ 21 0)) 20 0 (mI (sM μ 11 k (mI μ 21 0)) 20 1)) 21 1)) 20 2)) 21 1 (mI (sM (sM (sM (sM μ 11 k (mI μ 21 0)) 20 0 (mI (sM μ 11 k (mI μ 21 0)) 20 1)) 21 0 (mI (sM (sM μ 11 k (mI μ 21 0)) 20 0 (mI (sM μ 11 k (mI μ 21 0)) 20 1)) 21 1)) 20 1 (mI (sM (sM (sM μ 11 k (mI μ 21 0)) 20 0 (mI (sM μ 11 k (mI μ 21 0)) 20 1)) 21 0 (mI (sM (sM μ 11 k (mI μ 21 0)) 20 0 (mI (sM μ 11 k (mI μ 21 0)) 20 1)) 21 1)) 20 2)) 21 2)) 20 2 (mI (sM (sM (sM (sM (sM μ 11 k (mI μ 21 0)) 20 0 (mI (sM μ 11 k (mI μ 21 0)) 20 1)) 21 0 (mI (sM (sM μ 11 k (mI μ 21 0)) 20 0 (mI (sM μ 11 k (mI μ 21 0)) 20 1)) 21 1)) 20 1 (mI (sM (sM (sM μ 11 k (mI μ 21 0)) 20 0 (mI (sM μ 11 k (mI μ 21 0)) 20 1)) 21 0 (mI (sM (sM μ 11 k (mI μ 21 0)) 20 0 (mI (sM μ 11 k (mI μ 21 0)) 20 1)) 21 1)) 20 2)) 21 1 (mI (sM (sM (sM (sM μ 11 k (mI μ 21 0)) 20 0 (mI (sM μ 11 k (mI μ 21 0)) 20 1)) 21 0 (mI (sM (sM μ 11 k (mI μ 21 0)) 20 0 (mI (sM μ 11 k (mI μ 21 0)) 20 1)) 21 1)) 20 1 (mI (sM (sM (sM μ 11 k (mI μ 21 0)) 20 0 (mI (sM μ 11 k (mI μ 21 0)) 20 1)) 21 0 (mI (sM (sM μ 11 k (mI μ 21 0)) 20 0 (mI (sM μ 11 k (mI μ 21 0)) 20 1)) 21 1)) 20 2)) 21 2)) 20 3)) 21 3)) 19 0 ((mI (sM (sM (sM (sM (sM (sM (sM μ 11 k (mI μ 21 0)) 20 0 (mI (sM μ 11 k (mI μ 21 0)) 20 1)) 21 0 (mI (sM (sM μ 11 k (mI μ 21 0)) 20 0 (mI (sM μ 11 k (mI μ 21 0)) 20 1)) 21 1)) 20 1 (mI (sM (sM (sM μ 11 k (mI μ 21 0)) 20 0 (mI (sM μ 11 k (mI μ 21 0)) 20 1)) 21 0 (mI (sM (sM μ 11 k (mI μ 21 0)) 20 0 (mI (sM μ 11 k (mI μ 21 0)) 20 1)) 21 1)) 20 2)) 21 1 (mI (sM (sM (sM (sM μ 11 k (mI μ 21 0)) 20 0 (mI (sM μ 11 k (mI μ 21 0)) 20 1)) 21 0 (mI (sM (sM μ 11 k (mI μ 21 0)) 20 0 (mI (sM μ 11 k (mI μ 21 0)) 20 1)) 21 1)) 20 1 (mI (sM (sM (sM μ 11 k (mI μ 21 0)) 20 0 (mI (sM μ 11 k (mI μ 21 0)) 20 1)) 21 0 (mI (sM (sM μ 11 k (mI μ 21 0)) 20 0 (mI (sM μ 11 k (mI μ 21 0)) 20 1)) 21 1)) 20 2)) 21 2)) 20 2 (mI (sM (sM (sM (sM (sM μ 11 k (mI μ 21 0)) 20 0 (mI (sM μ 11 k (mI μ 21 0)) 20 1)) 21 0 (mI (sM (sM μ 11 k (mI μ 21 0)) 20 0 (mI (sM μ 11 k (mI μ 21 0)) 20 1)) 21 1)) 20 1 (mI (sM (sM (sM μ 11 k (mI μ 21 0)) 20 0 (mI (sM μ 11 k (mI μ 21 0)) 20 1)) 21 0 (mI (sM (sM μ 11 k (mI μ 21 0)) 20 0 (mI (sM μ 11 k (mI μ 21 0)) 20 1)) 21 1)) 20 2)) 21 1 (mI (sM (sM (sM (sM μ 11 k (mI μ 21 0)) 20 0 (mI (sM μ 11 k (mI μ 21 0)) 20 1)) 21 0 (mI (sM (sM μ 11 k (mI μ 21 0)) 20 0 (mI (sM μ 11 k (mI μ 21 0)) 20 1)) 21 1)) 20 1 (mI (sM (sM (sM μ 11 k (mI μ 21 0)) 20 0 (mI (sM μ 11 k (mI μ 21 0)) 20 1)) 21 0 (mI (sM (sM μ 11 k (mI μ 21 0)) 20 0 (mI (sM μ 11 k (mI μ 21 0)) 20 1)) 21 1)) 20 2)) 21 2)) 20 3)) 21 2 (mI (sM (sM (sM (sM (sM (sM μ 11 k (mI μ 21 0)) 20 0 (mI (sM μ 11 k (mI μ 21 0)) 20 1)) 21 0 (mI (sM (sM μ 11 k (mI μ 21 0)) 20 0 (mI (sM μ 11 k (mI μ 21 0)) 20 1)) 21 1)) 20 1 (mI (sM (sM (sM μ 11 k (mI μ 21 0)) 20 0 (mI (sM μ 11 k (mI μ 21 0)) 20 1)) 21 0 (mI (sM (sM μ 11 k (mI μ 21 0)) 20 0 (mI (sM μ 11 k (mI μ 21 0)) 20 1)) 21 1)) 20 2)) 21 1 (mI (sM (sM (sM (sM μ 11 k (mI μ 21 0)) 20 0 (mI (sM μ 11 k (mI μ 21 0)) 20 1)) 21 0 (mI (sM (sM μ 11 k (mI μ 21 0)) 20 0 (mI (sM μ 11 k (mI μ 21 0)) 20 1)) 21 1)) 20 1 (mI (sM (sM (sM μ 11 k (mI μ 21 0)) 20 0 (mI (sM μ 11 k (mI μ 21 0)) 20 1)) 21 0 (mI (sM (sM μ 11 k (mI μ 21 0)) 20 0 (mI (sM μ 11 k (mI μ 21 0)) 20 1)) 21 1)) 20 2)) 21 2)) 20 2 (mI (sM (sM (sM (sM (sM μ 11 k (mI μ 21 0)) 20 0 (mI (sM μ 11 k (mI μ 21 0)) 20 1)) 21 0 (mI (sM (sM μ 11 k (mI μ 21 0)) 20 0 (mI (sM μ 11 k (mI μ 21 0)) 20 1)) 21 1)) 20 1 (mI (sM (sM (sM μ 11 k (mI μ 21 0)) 20 0 (mI (sM μ 11 k (mI μ 21 0)) 20 1)) 21 0 (mI (sM (sM μ 11 k (mI μ 21 0)) 20 0 (mI (sM μ 11 k (mI μ 21 0)) 20 1)) 21 1)) 20 2)) 21 1 (mI (sM (sM (sM (sM μ 11 k (mI μ 21 0)) 20 0 (mI (sM μ 11 k (mI μ 21 0)) 20 1)) 21 0 (mI (sM (sM μ 11 k (mI μ 21 0)) 20 0 (mI (sM μ 11 k (mI μ 21 0)) 20 1)) 21 1)) 20 1 (mI (sM (sM (sM μ 11 k (mI μ 21 0)) 20 0 (mI (sM μ 11 k (mI μ 21 0)) 20 1)) 21 0 (mI (sM (sM μ 11 k (mI μ 21 0)) 20 0 (mI (sM μ 11 k (mI μ 21 0)) 20 1)) 21 1)) 20 2)) 21 2)) 20 3)) 21 3)) 19 0) - 1)
def mrem_1 (μ : km_S) (k : Nat) : km_S := sM (sM (sM (sM (sM (sM (sM (sM μ 11 k (mI μ 21 4)) 20 4 (mI (sM μ 11 k (mI μ 21 4)) 20 5)) 21 4 (mI (sM (sM μ 11 k (mI μ 21 4)) 20 4 (mI (sM μ 11 k (mI μ 21 4)) 20 5)) 21 5)) 20 5 (mI (sM (sM (sM μ 11 k (mI μ 21 4)) 20 4 (mI (sM μ 11 k (mI μ 21 4)) 20 5)) 21 4 (mI (sM (sM μ 11 k (mI μ 21 4)) 20 4 (mI (sM μ 11 k (mI μ 21 4)) 20 5)) 21 5)) 20 6)) 21 5 (mI (sM (sM (sM (sM μ 11 k (mI μ 21 4)) 20 4 (mI (sM μ 11 k (mI μ 21 4)) 20 5)) 21 4 (mI (sM (sM μ 11 k (mI μ 21 4)) 20 4 (mI (sM μ 11 k (mI μ 21 4)) 20 5)) 21 5)) 20 5 (mI (sM (sM (sM μ 11 k (mI μ 21 4)) 20 4 (mI (sM μ 11 k (mI μ 21 4)) 20 5)) 21 4 (mI (sM (sM μ 11 k (mI μ 21 4)) 20 4 (mI (sM μ 11 k (mI μ 21 4)) 20 5)) 21 5)) 20 6)) 21 6)) 20 6 (mI (sM (sM (sM (sM (sM μ 11 k (mI μ 21 4)) 20 4 (mI (sM μ 11 k (mI μ 21 4)) 20 5)) 21 4 (mI (sM (sM μ 11 k (mI μ 21 4)) 20 4 (mI (sM μ 11 k (mI μ 21 4)) 20 5)) 21 5)) 20 5 (mI (sM (sM (sM μ 11 k (mI μ 21 4)) 20 4 (mI (sM μ 11 k (mI μ 21 4)) 20 5)) 21 4 (mI (sM (sM μ 11 k (mI μ 21 4)) 20 4 (mI (sM μ 11 k (mI μ 21 4)) 20 5)) 21 5)) 20 6)) 21 5 (mI (sM (sM (sM (sM μ 11 k (mI μ 21 4)) 20 4 (mI (sM μ 11 k (mI μ 21 4)) 20 5)) 21 4 (mI (sM (sM μ 11 k (mI μ 21 4)) 20 4 (mI (sM μ 11 k (mI μ 21 4)) 20 5)) 21 5)) 20 5 (mI (sM (sM (sM μ 11 k (mI μ 21 4)) 20 4 (mI (sM μ 11 k (mI μ 21 4)) 20 5)) 21 4 (mI (sM (sM μ 11 k (mI μ 21 4)) 20 4 (mI (sM μ 11 k (mI μ 21 4)) 20 5)) 21 5)) 20 6)) 21 6)) 20 7)) 21 6 (mI (sM (sM (sM (sM (sM (sM μ 11 k (mI μ 21 4)) 20 4 (mI (sM μ 11 k (mI μ 21 4)) 20 5)) 21 4 (mI (sM (sM μ 11 k (mI μ 21 4)) 20 4 (mI (sM μ 11 k (mI μ 21 4)) 20 5)) 21 5)) 20 5 (mI (sM (sM (sM μ 11 k (mI μ 21 4)) 20 4 (mI (sM μ 11 k (mI μ 21 4)) 20 5)) 21 4 (mI (sM (sM μ 11 k (mI μ 21 4)) 20 4 (mI (sM μ 11 k (mI μ 21 4)) 20 5)) 21 5)) 20 6)) 21 5 (mI (sM (sM (sM (sM μ 11 k (mI μ 21 4)) 20 4 (mI (sM μ 11 k (mI μ 21 4)) 20 5)) 21 4 (mI (sM (sM μ 11 k (mI μ 21 4)) 20 4 (mI (sM μ 11 k (mI μ 21 4)) 20 5)) 21 5)) 20 5 (mI (sM (sM (sM μ 11 k (mI μ 21 4)) 20 4 (mI (sM μ 11 k (mI μ 21 4)) 20 5)) 21 4 (mI (sM (sM μ 11 k (mI μ 21 4)) 20 4 (mI (sM μ 11 k (mI μ 21 4)) 20 5)) 21 5)) 20 6)) 21 6)) 20 6 (mI (sM (sM (sM (sM (sM μ 11 k (mI μ 21 4)) 20 4 (mI (sM μ 11 k (mI μ 21 4)) 20 5)) 21 4 (mI (sM (sM μ 11 k (mI μ 21 4)) 20 4 (mI (sM μ 11 k (mI μ 21 4)) 20 5)) 21 5)) 20 5 (mI (sM (sM (sM μ 11 k (mI μ 21 4)) 20 4 (mI (sM μ 11 k (mI μ 21 4)) 20 5)) 21 4 (mI (sM (sM μ 11 k (mI μ 21 4)) 20 4 (mI (sM μ 11 k (mI μ 21 4)) 20 5)) 21 5)) 20 6)) 21 5 (mI (sM (sM (sM (sM μ 11 k (mI μ 21 4)) 20 4 (mI (sM μ 11 k (mI μ 21 4)) 20 5)) 21 4 (mI (sM (sM μ 11 k (mI μ 21 4)) 20 4 (mI (sM μ 11 k (mI μ 21 4)) 20 5)) 21 5)) 20 5 (mI (sM (sM (sM μ 11 k (mI μ 21 4)) 20 4 (mI (sM μ 11 k (mI μ 21 4)) 20 5)) 21 4 (mI (sM (sM μ 11 k (mI μ 21 4)) 20 4 (mI (sM μ 11 k (mI μ 21 4)) 20 5)) 21 5)) 20 6)) 21 6)) 20 7)) 21 7)) 19 1 ((mI (sM (sM (sM (sM (sM (sM (sM μ 11 k (mI μ 21 4)) 20 4 (mI (sM μ 11 k (mI μ 21 4)) 20 5)) 21 4 (mI (sM (sM μ 11 k (mI μ 21 4)) 20 4 (mI (sM μ 11 k (mI μ 21 4)) 20 5)) 21 5)) 20 5 (mI (sM (sM (sM μ 11 k (mI μ 21 4)) 20 4 (mI (sM μ 11 k (mI μ 21 4)) 20 5)) 21 4 (mI (sM (sM μ 11 k (mI μ 21 4)) 20 4 (mI (sM μ 11 k (mI μ 21 4)) 20 5)) 21 5)) 20 6)) 21 5 (mI (sM (sM (sM (sM μ 11 k (mI μ 21 4)) 20 4 (mI (sM μ 11 k (mI μ 21 4)) 20 5)) 21 4 (mI (sM (sM μ 11 k (mI μ 21 4)) 20 4 (mI (sM μ 11 k (mI μ 21 4)) 20 5)) 21 5)) 20 5 (mI (sM (sM (sM μ 11 k (mI μ 21 4)) 20 4 (mI (sM μ 11 k (mI μ 21 4)) 20 5)) 21 4 (mI (sM (sM μ 11 k (mI μ 21 4)) 20 4 (mI (sM μ 11 k (mI μ 21 4)) 20 5)) 21 5)) 20 6)) 21 6)) 20 6 (mI (sM (sM (sM (sM (sM μ 11 k (mI μ 21 4)) 20 4 (mI (sM μ 11 k (mI μ 21 4)) 20 5)) 21 4 (mI (sM (sM μ 11 k (mI μ 21 4)) 20 4 (mI (sM μ 11 k (mI μ 21 4)) 20 5)) 21 5)) 20 5 (mI (sM (sM (sM μ 11 k (mI μ 21 4)) 20 4 (mI (sM μ 11 k (mI μ 21 4)) 20 5)) 21 4 (mI (sM (sM μ 11 k (mI μ 21 4)) 20 4 (mI (sM μ 11 k (mI μ 21 4)) 20 5)) 21 5)) 20 6)) 21 5 (mI (sM (sM (sM (sM μ 11 k (mI μ 21 4)) 20 4 (mI (sM μ 11 k (mI μ 21 4)) 20 5)) 21 4 (mI (sM (sM μ 11 k (mI μ 21 4)) 20 4 (mI (sM μ 11 k (mI μ 21 4)) 20 5)) 21 5)) 20 5 (mI (sM (sM (sM μ 11 k (mI μ 21 4)) 20 4 (mI (sM μ 11 k (mI μ 21 4)) 20 5)) 21 4 (mI (sM (sM μ 11 k (mI μ 21 4)) 20 4 (mI (sM μ 11 k (mI μ 21 4)) 20 5)) 21 5)) 20 6)) 21 6)) 20 7)) 21 6 (mI (sM (sM (sM (sM (sM (sM μ 11 k (mI μ 21 4)) 20 4 (mI (sM μ 11 k (mI μ 21 4)) 20 5)) 21 4 (mI (sM (sM μ 11 k (mI μ 21 4)) 20 4 (mI (sM μ 11 k (mI μ 21 4)) 20 5)) 21 5)) 20 5 (mI (sM (sM (sM μ 11 k (mI μ 21 4)) 20 4 (mI (sM μ 11 k (mI μ 21 4)) 20 5)) 21 4 (mI (sM (sM μ 11 k (mI μ 21 4)) 20 4 (mI (sM μ 11 k (mI μ 21 4)) 20 5)) 21 5)) 20 6)) 21 5 (mI (sM (sM (sM (sM μ 11 k (mI μ 21 4)) 20 4 (mI (sM μ 11 k (mI μ 21 4)) 20 5)) 21 4 (mI (sM (sM μ 11 k (mI μ 21 4)) 20 4 (mI (sM μ 11 k (mI μ 21 4)) 20 5)) 21 5)) 20 5 (mI (sM (sM (sM μ 11 k (mI μ 21 4)) 20 4 (mI (sM μ 11 k (mI μ 21 4)) 20 5)) 21 4 (mI (sM (sM μ 11 k (mI μ 21 4)) 20 4 (mI (sM μ 11 k (mI μ 21 4)) 20 5)) 21 5)) 20 6)) 21 6)) 20 6 (mI (sM (sM (sM (sM (sM μ 11 k (mI μ 21 4)) 20 4 (mI (sM μ 11 k (mI μ 21 4)) 20 5)) 21 4 (mI (sM (sM μ 11 k (mI μ 21 4)) 20 4 (mI (sM μ 11 k (mI μ 21 4)) 20 5)) 21 5)) 20 5 (mI (sM (sM (sM μ 11 k (mI μ 21 4)) 20 4 (mI (sM μ 11 k (mI μ 21 4)) 20 5)) 21 4 (mI (sM (sM μ 11 k (mI μ 21 4)) 20 4 (mI (sM μ 11 k (mI μ 21 4)) 20 5)) 21 5)) 20 6)) 21 5 (mI (sM (sM (sM (sM μ 11 k (mI μ 21 4)) 20 4 (mI (sM μ 11 k (mI μ 21 4)) 20 5)) 21 4 (mI (sM (sM μ 11 k (mI μ 21 4)) 20 4 (mI (sM μ 11 k (mI μ 21 4)) 20 5)) 21 5)) 20 5 (mI (sM (sM (sM μ 11 k (mI μ 21 4)) 20 4 (mI (sM μ 11 k (mI μ 21 4)) 20 5)) 21 4 (mI (sM (sM μ 11 k (mI μ 21 4)) 20 4 (mI (sM μ 11 k (mI μ 21 4)) 20 5)) 21 5)) 20 6)) 21 6)) 20 7)) 21 7)) 19 1) - 1)
def mrem (μ : km_S) (q k : Nat) : km_S := if q = 0 then mrem_0 μ k else mrem_1 μ k
set_option maxHeartbeats 4000000 in
theorem kr_rem_0_1 {N B t : Nat} {σ : kx_S} {μ : km_S} (h : kr N B 2 σ μ) (ht : t < 8) (hst : kI σ 10 t = 1) (hs : kI σ 9 0 = nI 1) : ∃ R, xf_removeFirst_0 σ = (kI σ 7 0, R) ∧ kr N B 0 (sI R 15 t (kI σ 7 0)) (mrem_0 μ t) ∧ kI R 9 0 = nI 0 ∧ ∀ f k, 10 ≤ f → kI R f k = kI σ f k := by
  obtain ⟨j, j1, j2, j3, j4⟩ := h.2.2.2.1 0 (by decide)
  obtain rfl : j = 1 := (nI_eq (by omega) (by omega)).mp (j2.symm.trans hs)
  have a0 := j4 0 (by decide)
  have emp : xf_isEmpty_0 σ = (0, σ) := by unfold xf_isEmpty_0; rw [if_neg (by rw [hs]; decide)]
  refine ⟨sI σ 9 0 ((kI σ 9 0) - 1), ?_, ?_, ?_, fun f k hf => ?_⟩
  · rw [xf_removeFirst_0, kk_b_eq emp, if_pos rfl, if_pos (show kI σ 9 0 = 1 by rw [hs]; decide)]
  · have hr := kr_res (kI σ 7 0) h ht (kr_on10 h ht hst)
    refine kr_qupd hr (Or.inl rfl) (by decide) (fun f i h1 h2 h3 => ?_) (fun _ _ => rfl) (fun f i h1 h2 => ?_) ⟨0, by decide, ?_, ?_, fun i hi => ?_⟩
    · by_cases z : f = 15 ∧ i = t
      · obtain ⟨rfl, rfl⟩ := z
        rw [kI_sI, if_pos ⟨rfl, rfl⟩, kI_sI, if_pos ⟨rfl, rfl⟩]
      · rw [kI_n z, kI_n (by omega), kI_n z]
    · rw [mrem_0, mI_n (by omega), mI_n (by omega), mI_n (by omega), mI_n (by omega), mI_n (by omega), mI_n (by omega), mI_n (by omega)]
      rw [show mI μ 21 0 = kI σ 7 0 from a0.2.symm]
    · exact (show _ = kI σ 9 0 - 1 from rfl).trans (by rw [hs]; decide)
    · exact (show _ = mI μ 19 0 - 1 from rfl).trans (by rw [j3]; decide)
    · omega
  · exact (show _ = kI σ 9 0 - 1 from rfl).trans (by rw [hs]; decide)
  · rw [kI_n (by omega)]
set_option maxHeartbeats 4000000 in
theorem kr_rem_0_2 {N B t : Nat} {σ : kx_S} {μ : km_S} (h : kr N B 2 σ μ) (ht : t < 8) (hst : kI σ 10 t = 1) (hs : kI σ 9 0 = nI 2) : ∃ R, xf_removeFirst_0 σ = (kI σ 7 0, R) ∧ kr N B 0 (sI R 15 t (kI σ 7 0)) (mrem_0 μ t) ∧ kI R 9 0 = nI 1 ∧ ∀ f k, 10 ≤ f → kI R f k = kI σ f k := by
  obtain ⟨j, j1, j2, j3, j4⟩ := h.2.2.2.1 0 (by decide)
  obtain rfl : j = 2 := (nI_eq (by omega) (by omega)).mp (j2.symm.trans hs)
  have a0 := j4 0 (by decide)
  have a1 := j4 1 (by decide)
  have emp : xf_isEmpty_0 σ = (0, σ) := by unfold xf_isEmpty_0; rw [if_neg (by rw [hs]; decide)]
  refine ⟨sI (sI (sI σ 9 0 ((kI σ 9 0) - 1)) 5 0 (kI (sI σ 9 0 ((kI σ 9 0) - 1)) 5 1)) 7 0 (kI (sI (sI σ 9 0 ((kI σ 9 0) - 1)) 5 0 (kI (sI σ 9 0 ((kI σ 9 0) - 1)) 5 1)) 7 1), ?_, ?_, ?_, fun f k hf => ?_⟩
  · rw [xf_removeFirst_0, kk_b_eq emp, if_pos rfl, if_neg (show ¬ kI σ 9 0 = 1 by rw [hs]; decide), if_pos (show kI σ 9 0 = 2 by rw [hs]; decide)]
  · have hr := kr_res (kI σ 7 0) h ht (kr_on10 h ht hst)
    refine kr_qupd hr (Or.inl rfl) (by decide) (fun f i h1 h2 h3 => ?_) (fun _ _ => rfl) (fun f i h1 h2 => ?_) ⟨1, by decide, ?_, ?_, fun i hi => ?_⟩
    · by_cases z : f = 15 ∧ i = t
      · obtain ⟨rfl, rfl⟩ := z
        rw [kI_sI, if_pos ⟨rfl, rfl⟩, kI_sI, if_pos ⟨rfl, rfl⟩]
      · rw [kI_n z, kI_n (by omega), kI_n (by omega), kI_n (by omega), kI_n z]
    · rw [mrem_0, mI_n (by omega), mI_n (by omega), mI_n (by omega), mI_n (by omega), mI_n (by omega), mI_n (by omega), mI_n (by omega)]
      rw [show mI μ 21 0 = kI σ 7 0 from a0.2.symm]
    · exact (show _ = kI σ 9 0 - 1 from rfl).trans (by rw [hs]; decide)
    · exact (show _ = mI μ 19 0 - 1 from rfl).trans (by rw [j3]; decide)
    · rcases (show i = 0 by omega) with rfl
      exact ⟨by first | rfl | exact a0.1 | exact a1.1, by first | rfl | exact a0.2 | exact a1.2⟩
  · exact (show _ = kI σ 9 0 - 1 from rfl).trans (by rw [hs]; decide)
  · rw [kI_n (by omega), kI_n (by omega), kI_n (by omega)]
set_option maxHeartbeats 4000000 in
theorem kr_rem_0_3 {N B t : Nat} {σ : kx_S} {μ : km_S} (h : kr N B 2 σ μ) (ht : t < 8) (hst : kI σ 10 t = 1) (hs : kI σ 9 0 = nI 3) : ∃ R, xf_removeFirst_0 σ = (kI σ 7 0, R) ∧ kr N B 0 (sI R 15 t (kI σ 7 0)) (mrem_0 μ t) ∧ kI R 9 0 = nI 2 ∧ ∀ f k, 10 ≤ f → kI R f k = kI σ f k := by
  obtain ⟨j, j1, j2, j3, j4⟩ := h.2.2.2.1 0 (by decide)
  obtain rfl : j = 3 := (nI_eq (by omega) (by omega)).mp (j2.symm.trans hs)
  have a0 := j4 0 (by decide)
  have a1 := j4 1 (by decide)
  have a2 := j4 2 (by decide)
  have emp : xf_isEmpty_0 σ = (0, σ) := by unfold xf_isEmpty_0; rw [if_neg (by rw [hs]; decide)]
  refine ⟨sI (sI (sI (sI (sI σ 9 0 ((kI σ 9 0) - 1)) 5 0 (kI (sI σ 9 0 ((kI σ 9 0) - 1)) 5 1)) 7 0 (kI (sI (sI σ 9 0 ((kI σ 9 0) - 1)) 5 0 (kI (sI σ 9 0 ((kI σ 9 0) - 1)) 5 1)) 7 1)) 5 1 (kI (sI (sI (sI σ 9 0 ((kI σ 9 0) - 1)) 5 0 (kI (sI σ 9 0 ((kI σ 9 0) - 1)) 5 1)) 7 0 (kI (sI (sI σ 9 0 ((kI σ 9 0) - 1)) 5 0 (kI (sI σ 9 0 ((kI σ 9 0) - 1)) 5 1)) 7 1)) 5 2)) 7 1 (kI (sI (sI (sI (sI σ 9 0 ((kI σ 9 0) - 1)) 5 0 (kI (sI σ 9 0 ((kI σ 9 0) - 1)) 5 1)) 7 0 (kI (sI (sI σ 9 0 ((kI σ 9 0) - 1)) 5 0 (kI (sI σ 9 0 ((kI σ 9 0) - 1)) 5 1)) 7 1)) 5 1 (kI (sI (sI (sI σ 9 0 ((kI σ 9 0) - 1)) 5 0 (kI (sI σ 9 0 ((kI σ 9 0) - 1)) 5 1)) 7 0 (kI (sI (sI σ 9 0 ((kI σ 9 0) - 1)) 5 0 (kI (sI σ 9 0 ((kI σ 9 0) - 1)) 5 1)) 7 1)) 5 2)) 7 2), ?_, ?_, ?_, fun f k hf => ?_⟩
  · rw [xf_removeFirst_0, kk_b_eq emp, if_pos rfl, if_neg (show ¬ kI σ 9 0 = 1 by rw [hs]; decide), if_neg (show ¬ kI σ 9 0 = 2 by rw [hs]; decide), if_pos (show kI σ 9 0 = 3 by rw [hs]; decide)]
  · have hr := kr_res (kI σ 7 0) h ht (kr_on10 h ht hst)
    refine kr_qupd hr (Or.inl rfl) (by decide) (fun f i h1 h2 h3 => ?_) (fun _ _ => rfl) (fun f i h1 h2 => ?_) ⟨2, by decide, ?_, ?_, fun i hi => ?_⟩
    · by_cases z : f = 15 ∧ i = t
      · obtain ⟨rfl, rfl⟩ := z
        rw [kI_sI, if_pos ⟨rfl, rfl⟩, kI_sI, if_pos ⟨rfl, rfl⟩]
      · rw [kI_n z, kI_n (by omega), kI_n (by omega), kI_n (by omega), kI_n (by omega), kI_n (by omega), kI_n z]
    · rw [mrem_0, mI_n (by omega), mI_n (by omega), mI_n (by omega), mI_n (by omega), mI_n (by omega), mI_n (by omega), mI_n (by omega)]
      rw [show mI μ 21 0 = kI σ 7 0 from a0.2.symm]
    · exact (show _ = kI σ 9 0 - 1 from rfl).trans (by rw [hs]; decide)
    · exact (show _ = mI μ 19 0 - 1 from rfl).trans (by rw [j3]; decide)
    · rcases (show i = 0 ∨ i = 1 by omega) with rfl | rfl
      · exact ⟨by first | rfl | exact a0.1 | exact a1.1 | exact a2.1, by first | rfl | exact a0.2 | exact a1.2 | exact a2.2⟩
      · exact ⟨by first | rfl | exact a0.1 | exact a1.1 | exact a2.1, by first | rfl | exact a0.2 | exact a1.2 | exact a2.2⟩
  · exact (show _ = kI σ 9 0 - 1 from rfl).trans (by rw [hs]; decide)
  · rw [kI_n (by omega), kI_n (by omega), kI_n (by omega), kI_n (by omega), kI_n (by omega)]
set_option maxHeartbeats 4000000 in
theorem kr_rem_0_4 {N B t : Nat} {σ : kx_S} {μ : km_S} (h : kr N B 2 σ μ) (ht : t < 8) (hst : kI σ 10 t = 1) (hs : kI σ 9 0 = nI 4) : ∃ R, xf_removeFirst_0 σ = (kI σ 7 0, R) ∧ kr N B 0 (sI R 15 t (kI σ 7 0)) (mrem_0 μ t) ∧ kI R 9 0 = nI 3 ∧ ∀ f k, 10 ≤ f → kI R f k = kI σ f k := by
  obtain ⟨j, j1, j2, j3, j4⟩ := h.2.2.2.1 0 (by decide)
  obtain rfl : j = 4 := (nI_eq (by omega) (by omega)).mp (j2.symm.trans hs)
  have a0 := j4 0 (by decide)
  have a1 := j4 1 (by decide)
  have a2 := j4 2 (by decide)
  have a3 := j4 3 (by decide)
  have emp : xf_isEmpty_0 σ = (0, σ) := by unfold xf_isEmpty_0; rw [if_neg (by rw [hs]; decide)]
  refine ⟨sI (sI (sI (sI (sI (sI (sI σ 9 0 ((kI σ 9 0) - 1)) 5 0 (kI (sI σ 9 0 ((kI σ 9 0) - 1)) 5 1)) 7 0 (kI (sI (sI σ 9 0 ((kI σ 9 0) - 1)) 5 0 (kI (sI σ 9 0 ((kI σ 9 0) - 1)) 5 1)) 7 1)) 5 1 (kI (sI (sI (sI σ 9 0 ((kI σ 9 0) - 1)) 5 0 (kI (sI σ 9 0 ((kI σ 9 0) - 1)) 5 1)) 7 0 (kI (sI (sI σ 9 0 ((kI σ 9 0) - 1)) 5 0 (kI (sI σ 9 0 ((kI σ 9 0) - 1)) 5 1)) 7 1)) 5 2)) 7 1 (kI (sI (sI (sI (sI σ 9 0 ((kI σ 9 0) - 1)) 5 0 (kI (sI σ 9 0 ((kI σ 9 0) - 1)) 5 1)) 7 0 (kI (sI (sI σ 9 0 ((kI σ 9 0) - 1)) 5 0 (kI (sI σ 9 0 ((kI σ 9 0) - 1)) 5 1)) 7 1)) 5 1 (kI (sI (sI (sI σ 9 0 ((kI σ 9 0) - 1)) 5 0 (kI (sI σ 9 0 ((kI σ 9 0) - 1)) 5 1)) 7 0 (kI (sI (sI σ 9 0 ((kI σ 9 0) - 1)) 5 0 (kI (sI σ 9 0 ((kI σ 9 0) - 1)) 5 1)) 7 1)) 5 2)) 7 2)) 5 2 (kI (sI (sI (sI (sI (sI σ 9 0 ((kI σ 9 0) - 1)) 5 0 (kI (sI σ 9 0 ((kI σ 9 0) - 1)) 5 1)) 7 0 (kI (sI (sI σ 9 0 ((kI σ 9 0) - 1)) 5 0 (kI (sI σ 9 0 ((kI σ 9 0) - 1)) 5 1)) 7 1)) 5 1 (kI (sI (sI (sI σ 9 0 ((kI σ 9 0) - 1)) 5 0 (kI (sI σ 9 0 ((kI σ 9 0) - 1)) 5 1)) 7 0 (kI (sI (sI σ 9 0 ((kI σ 9 0) - 1)) 5 0 (kI (sI σ 9 0 ((kI σ 9 0) - 1)) 5 1)) 7 1)) 5 2)) 7 1 (kI (sI (sI (sI (sI σ 9 0 ((kI σ 9 0) - 1)) 5 0 (kI (sI σ 9 0 ((kI σ 9 0) - 1)) 5 1)) 7 0 (kI (sI (sI σ 9 0 ((kI σ 9 0) - 1)) 5 0 (kI (sI σ 9 0 ((kI σ 9 0) - 1)) 5 1)) 7 1)) 5 1 (kI (sI (sI (sI σ 9 0 ((kI σ 9 0) - 1)) 5 0 (kI (sI σ 9 0 ((kI σ 9 0) - 1)) 5 1)) 7 0 (kI (sI (sI σ 9 0 ((kI σ 9 0) - 1)) 5 0 (kI (sI σ 9 0 ((kI σ 9 0) - 1)) 5 1)) 7 1)) 5 2)) 7 2)) 5 3)) 7 2 (kI (sI (sI (sI (sI (sI (sI σ 9 0 ((kI σ 9 0) - 1)) 5 0 (kI (sI σ 9 0 ((kI σ 9 0) - 1)) 5 1)) 7 0 (kI (sI (sI σ 9 0 ((kI σ 9 0) - 1)) 5 0 (kI (sI σ 9 0 ((kI σ 9 0) - 1)) 5 1)) 7 1)) 5 1 (kI (sI (sI (sI σ 9 0 ((kI σ 9 0) - 1)) 5 0 (kI (sI σ 9 0 ((kI σ 9 0) - 1)) 5 1)) 7 0 (kI (sI (sI σ 9 0 ((kI σ 9 0) - 1)) 5 0 (kI (sI σ 9 0 ((kI σ 9 0) - 1)) 5 1)) 7 1)) 5 2)) 7 1 (kI (sI (sI (sI (sI σ 9 0 ((kI σ 9 0) - 1)) 5 0 (kI (sI σ 9 0 ((kI σ 9 0) - 1)) 5 1)) 7 0 (kI (sI (sI σ 9 0 ((kI σ 9 0) - 1)) 5 0 (kI (sI σ 9 0 ((kI σ 9 0) - 1)) 5 1)) 7 1)) 5 1 (kI (sI (sI (sI σ 9 0 ((kI σ 9 0) - 1)) 5 0 (kI (sI σ 9 0 ((kI σ 9 0) - 1)) 5 1)) 7 0 (kI (sI (sI σ 9 0 ((kI σ 9 0) - 1)) 5 0 (kI (sI σ 9 0 ((kI σ 9 0) - 1)) 5 1)) 7 1)) 5 2)) 7 2)) 5 2 (kI (sI (sI (sI (sI (sI σ 9 0 ((kI σ 9 0) - 1)) 5 0 (kI (sI σ 9 0 ((kI σ 9 0) - 1)) 5 1)) 7 0 (kI (sI (sI σ 9 0 ((kI σ 9 0) - 1)) 5 0 (kI (sI σ 9 0 ((kI σ 9 0) - 1)) 5 1)) 7 1)) 5 1 (kI (sI (sI (sI σ 9 0 ((kI σ 9 0) - 1)) 5 0 (kI (sI σ 9 0 ((kI σ 9 0) - 1)) 5 1)) 7 0 (kI (sI (sI σ 9 0 ((kI σ 9 0) - 1)) 5 0 (kI (sI σ 9 0 ((kI σ 9 0) - 1)) 5 1)) 7 1)) 5 2)) 7 1 (kI (sI (sI (sI (sI σ 9 0 ((kI σ 9 0) - 1)) 5 0 (kI (sI σ 9 0 ((kI σ 9 0) - 1)) 5 1)) 7 0 (kI (sI (sI σ 9 0 ((kI σ 9 0) - 1)) 5 0 (kI (sI σ 9 0 ((kI σ 9 0) - 1)) 5 1)) 7 1)) 5 1 (kI (sI (sI (sI σ 9 0 ((kI σ 9 0) - 1)) 5 0 (kI (sI σ 9 0 ((kI σ 9 0) - 1)) 5 1)) 7 0 (kI (sI (sI σ 9 0 ((kI σ 9 0) - 1)) 5 0 (kI (sI σ 9 0 ((kI σ 9 0) - 1)) 5 1)) 7 1)) 5 2)) 7 2)) 5 3)) 7 3), ?_, ?_, ?_, fun f k hf => ?_⟩
  · rw [xf_removeFirst_0, kk_b_eq emp, if_pos rfl, if_neg (show ¬ kI σ 9 0 = 1 by rw [hs]; decide), if_neg (show ¬ kI σ 9 0 = 2 by rw [hs]; decide), if_neg (show ¬ kI σ 9 0 = 3 by rw [hs]; decide)]
  · have hr := kr_res (kI σ 7 0) h ht (kr_on10 h ht hst)
    refine kr_qupd hr (Or.inl rfl) (by decide) (fun f i h1 h2 h3 => ?_) (fun _ _ => rfl) (fun f i h1 h2 => ?_) ⟨3, by decide, ?_, ?_, fun i hi => ?_⟩
    · by_cases z : f = 15 ∧ i = t
      · obtain ⟨rfl, rfl⟩ := z
        rw [kI_sI, if_pos ⟨rfl, rfl⟩, kI_sI, if_pos ⟨rfl, rfl⟩]
      · rw [kI_n z, kI_n (by omega), kI_n (by omega), kI_n (by omega), kI_n (by omega), kI_n (by omega), kI_n (by omega), kI_n (by omega), kI_n z]
    · rw [mrem_0, mI_n (by omega), mI_n (by omega), mI_n (by omega), mI_n (by omega), mI_n (by omega), mI_n (by omega), mI_n (by omega)]
      rw [show mI μ 21 0 = kI σ 7 0 from a0.2.symm]
    · exact (show _ = kI σ 9 0 - 1 from rfl).trans (by rw [hs]; decide)
    · exact (show _ = mI μ 19 0 - 1 from rfl).trans (by rw [j3]; decide)
    · rcases (show i = 0 ∨ i = 1 ∨ i = 2 by omega) with rfl | rfl | rfl
      · exact ⟨by first | rfl | exact a0.1 | exact a1.1 | exact a2.1 | exact a3.1, by first | rfl | exact a0.2 | exact a1.2 | exact a2.2 | exact a3.2⟩
      · exact ⟨by first | rfl | exact a0.1 | exact a1.1 | exact a2.1 | exact a3.1, by first | rfl | exact a0.2 | exact a1.2 | exact a2.2 | exact a3.2⟩
      · exact ⟨by first | rfl | exact a0.1 | exact a1.1 | exact a2.1 | exact a3.1, by first | rfl | exact a0.2 | exact a1.2 | exact a2.2 | exact a3.2⟩
  · exact (show _ = kI σ 9 0 - 1 from rfl).trans (by rw [hs]; decide)
  · rw [kI_n (by omega), kI_n (by omega), kI_n (by omega), kI_n (by omega), kI_n (by omega), kI_n (by omega), kI_n (by omega)]
set_option maxHeartbeats 4000000 in
theorem kr_rem_1_1 {N B t : Nat} {σ : kx_S} {μ : km_S} (h : kr N B 2 σ μ) (ht : t < 8) (hst : kI σ 10 t = 1) (hs : kI σ 9 1 = nI 1) : ∃ R, xf_removeFirst_1 σ = (kI σ 8 0, R) ∧ kr N B 1 (sI R 15 t (kI σ 8 0)) (mrem_1 μ t) ∧ kI R 9 1 = nI 0 ∧ ∀ f k, 10 ≤ f → kI R f k = kI σ f k := by
  obtain ⟨j, j1, j2, j3, j4⟩ := h.2.2.2.1 1 (by decide)
  obtain rfl : j = 1 := (nI_eq (by omega) (by omega)).mp (j2.symm.trans hs)
  have a0 := j4 0 (by decide)
  have emp : xf_isEmpty_1 σ = (0, σ) := by unfold xf_isEmpty_1; rw [if_neg (by rw [hs]; decide)]
  refine ⟨sI σ 9 1 ((kI σ 9 1) - 1), ?_, ?_, ?_, fun f k hf => ?_⟩
  · rw [xf_removeFirst_1, kk_b_eq emp, if_pos rfl, if_pos (show kI σ 9 1 = 1 by rw [hs]; decide)]
  · have hr := kr_res (kI σ 8 0) h ht (kr_on10 h ht hst)
    refine kr_qupd hr (Or.inl rfl) (by decide) (fun f i h1 h2 h3 => ?_) (fun _ _ => rfl) (fun f i h1 h2 => ?_) ⟨0, by decide, ?_, ?_, fun i hi => ?_⟩
    · by_cases z : f = 15 ∧ i = t
      · obtain ⟨rfl, rfl⟩ := z
        rw [kI_sI, if_pos ⟨rfl, rfl⟩, kI_sI, if_pos ⟨rfl, rfl⟩]
      · rw [kI_n z, kI_n (by omega), kI_n z]
    · rw [mrem_1, mI_n (by omega), mI_n (by omega), mI_n (by omega), mI_n (by omega), mI_n (by omega), mI_n (by omega), mI_n (by omega)]
      rw [show mI μ 21 4 = kI σ 8 0 from a0.2.symm]
    · exact (show _ = kI σ 9 1 - 1 from rfl).trans (by rw [hs]; decide)
    · exact (show _ = mI μ 19 1 - 1 from rfl).trans (by rw [j3]; decide)
    · omega
  · exact (show _ = kI σ 9 1 - 1 from rfl).trans (by rw [hs]; decide)
  · rw [kI_n (by omega)]
set_option maxHeartbeats 4000000 in
theorem kr_rem_1_2 {N B t : Nat} {σ : kx_S} {μ : km_S} (h : kr N B 2 σ μ) (ht : t < 8) (hst : kI σ 10 t = 1) (hs : kI σ 9 1 = nI 2) : ∃ R, xf_removeFirst_1 σ = (kI σ 8 0, R) ∧ kr N B 1 (sI R 15 t (kI σ 8 0)) (mrem_1 μ t) ∧ kI R 9 1 = nI 1 ∧ ∀ f k, 10 ≤ f → kI R f k = kI σ f k := by
  obtain ⟨j, j1, j2, j3, j4⟩ := h.2.2.2.1 1 (by decide)
  obtain rfl : j = 2 := (nI_eq (by omega) (by omega)).mp (j2.symm.trans hs)
  have a0 := j4 0 (by decide)
  have a1 := j4 1 (by decide)
  have emp : xf_isEmpty_1 σ = (0, σ) := by unfold xf_isEmpty_1; rw [if_neg (by rw [hs]; decide)]
  refine ⟨sI (sI (sI σ 9 1 ((kI σ 9 1) - 1)) 6 0 (kI (sI σ 9 1 ((kI σ 9 1) - 1)) 6 1)) 8 0 (kI (sI (sI σ 9 1 ((kI σ 9 1) - 1)) 6 0 (kI (sI σ 9 1 ((kI σ 9 1) - 1)) 6 1)) 8 1), ?_, ?_, ?_, fun f k hf => ?_⟩
  · rw [xf_removeFirst_1, kk_b_eq emp, if_pos rfl, if_neg (show ¬ kI σ 9 1 = 1 by rw [hs]; decide), if_pos (show kI σ 9 1 = 2 by rw [hs]; decide)]
  · have hr := kr_res (kI σ 8 0) h ht (kr_on10 h ht hst)
    refine kr_qupd hr (Or.inl rfl) (by decide) (fun f i h1 h2 h3 => ?_) (fun _ _ => rfl) (fun f i h1 h2 => ?_) ⟨1, by decide, ?_, ?_, fun i hi => ?_⟩
    · by_cases z : f = 15 ∧ i = t
      · obtain ⟨rfl, rfl⟩ := z
        rw [kI_sI, if_pos ⟨rfl, rfl⟩, kI_sI, if_pos ⟨rfl, rfl⟩]
      · rw [kI_n z, kI_n (by omega), kI_n (by omega), kI_n (by omega), kI_n z]
    · rw [mrem_1, mI_n (by omega), mI_n (by omega), mI_n (by omega), mI_n (by omega), mI_n (by omega), mI_n (by omega), mI_n (by omega)]
      rw [show mI μ 21 4 = kI σ 8 0 from a0.2.symm]
    · exact (show _ = kI σ 9 1 - 1 from rfl).trans (by rw [hs]; decide)
    · exact (show _ = mI μ 19 1 - 1 from rfl).trans (by rw [j3]; decide)
    · rcases (show i = 0 by omega) with rfl
      exact ⟨by first | rfl | exact a0.1 | exact a1.1, by first | rfl | exact a0.2 | exact a1.2⟩
  · exact (show _ = kI σ 9 1 - 1 from rfl).trans (by rw [hs]; decide)
  · rw [kI_n (by omega), kI_n (by omega), kI_n (by omega)]
set_option maxHeartbeats 4000000 in
theorem kr_rem_1_3 {N B t : Nat} {σ : kx_S} {μ : km_S} (h : kr N B 2 σ μ) (ht : t < 8) (hst : kI σ 10 t = 1) (hs : kI σ 9 1 = nI 3) : ∃ R, xf_removeFirst_1 σ = (kI σ 8 0, R) ∧ kr N B 1 (sI R 15 t (kI σ 8 0)) (mrem_1 μ t) ∧ kI R 9 1 = nI 2 ∧ ∀ f k, 10 ≤ f → kI R f k = kI σ f k := by
  obtain ⟨j, j1, j2, j3, j4⟩ := h.2.2.2.1 1 (by decide)
  obtain rfl : j = 3 := (nI_eq (by omega) (by omega)).mp (j2.symm.trans hs)
  have a0 := j4 0 (by decide)
  have a1 := j4 1 (by decide)
  have a2 := j4 2 (by decide)
  have emp : xf_isEmpty_1 σ = (0, σ) := by unfold xf_isEmpty_1; rw [if_neg (by rw [hs]; decide)]
  refine ⟨sI (sI (sI (sI (sI σ 9 1 ((kI σ 9 1) - 1)) 6 0 (kI (sI σ 9 1 ((kI σ 9 1) - 1)) 6 1)) 8 0 (kI (sI (sI σ 9 1 ((kI σ 9 1) - 1)) 6 0 (kI (sI σ 9 1 ((kI σ 9 1) - 1)) 6 1)) 8 1)) 6 1 (kI (sI (sI (sI σ 9 1 ((kI σ 9 1) - 1)) 6 0 (kI (sI σ 9 1 ((kI σ 9 1) - 1)) 6 1)) 8 0 (kI (sI (sI σ 9 1 ((kI σ 9 1) - 1)) 6 0 (kI (sI σ 9 1 ((kI σ 9 1) - 1)) 6 1)) 8 1)) 6 2)) 8 1 (kI (sI (sI (sI (sI σ 9 1 ((kI σ 9 1) - 1)) 6 0 (kI (sI σ 9 1 ((kI σ 9 1) - 1)) 6 1)) 8 0 (kI (sI (sI σ 9 1 ((kI σ 9 1) - 1)) 6 0 (kI (sI σ 9 1 ((kI σ 9 1) - 1)) 6 1)) 8 1)) 6 1 (kI (sI (sI (sI σ 9 1 ((kI σ 9 1) - 1)) 6 0 (kI (sI σ 9 1 ((kI σ 9 1) - 1)) 6 1)) 8 0 (kI (sI (sI σ 9 1 ((kI σ 9 1) - 1)) 6 0 (kI (sI σ 9 1 ((kI σ 9 1) - 1)) 6 1)) 8 1)) 6 2)) 8 2), ?_, ?_, ?_, fun f k hf => ?_⟩
  · rw [xf_removeFirst_1, kk_b_eq emp, if_pos rfl, if_neg (show ¬ kI σ 9 1 = 1 by rw [hs]; decide), if_neg (show ¬ kI σ 9 1 = 2 by rw [hs]; decide), if_pos (show kI σ 9 1 = 3 by rw [hs]; decide)]
  · have hr := kr_res (kI σ 8 0) h ht (kr_on10 h ht hst)
    refine kr_qupd hr (Or.inl rfl) (by decide) (fun f i h1 h2 h3 => ?_) (fun _ _ => rfl) (fun f i h1 h2 => ?_) ⟨2, by decide, ?_, ?_, fun i hi => ?_⟩
    · by_cases z : f = 15 ∧ i = t
      · obtain ⟨rfl, rfl⟩ := z
        rw [kI_sI, if_pos ⟨rfl, rfl⟩, kI_sI, if_pos ⟨rfl, rfl⟩]
      · rw [kI_n z, kI_n (by omega), kI_n (by omega), kI_n (by omega), kI_n (by omega), kI_n (by omega), kI_n z]
    · rw [mrem_1, mI_n (by omega), mI_n (by omega), mI_n (by omega), mI_n (by omega), mI_n (by omega), mI_n (by omega), mI_n (by omega)]
      rw [show mI μ 21 4 = kI σ 8 0 from a0.2.symm]
    · exact (show _ = kI σ 9 1 - 1 from rfl).trans (by rw [hs]; decide)
    · exact (show _ = mI μ 19 1 - 1 from rfl).trans (by rw [j3]; decide)
    · rcases (show i = 0 ∨ i = 1 by omega) with rfl | rfl
      · exact ⟨by first | rfl | exact a0.1 | exact a1.1 | exact a2.1, by first | rfl | exact a0.2 | exact a1.2 | exact a2.2⟩
      · exact ⟨by first | rfl | exact a0.1 | exact a1.1 | exact a2.1, by first | rfl | exact a0.2 | exact a1.2 | exact a2.2⟩
  · exact (show _ = kI σ 9 1 - 1 from rfl).trans (by rw [hs]; decide)
  · rw [kI_n (by omega), kI_n (by omega), kI_n (by omega), kI_n (by omega), kI_n (by omega)]
set_option maxHeartbeats 4000000 in
theorem kr_rem_1_4 {N B t : Nat} {σ : kx_S} {μ : km_S} (h : kr N B 2 σ μ) (ht : t < 8) (hst : kI σ 10 t = 1) (hs : kI σ 9 1 = nI 4) : ∃ R, xf_removeFirst_1 σ = (kI σ 8 0, R) ∧ kr N B 1 (sI R 15 t (kI σ 8 0)) (mrem_1 μ t) ∧ kI R 9 1 = nI 3 ∧ ∀ f k, 10 ≤ f → kI R f k = kI σ f k := by
  obtain ⟨j, j1, j2, j3, j4⟩ := h.2.2.2.1 1 (by decide)
  obtain rfl : j = 4 := (nI_eq (by omega) (by omega)).mp (j2.symm.trans hs)
  have a0 := j4 0 (by decide)
  have a1 := j4 1 (by decide)
  have a2 := j4 2 (by decide)
  have a3 := j4 3 (by decide)
  have emp : xf_isEmpty_1 σ = (0, σ) := by unfold xf_isEmpty_1; rw [if_neg (by rw [hs]; decide)]
  refine ⟨sI (sI (sI (sI (sI (sI (sI σ 9 1 ((kI σ 9 1) - 1)) 6 0 (kI (sI σ 9 1 ((kI σ 9 1) - 1)) 6 1)) 8 0 (kI (sI (sI σ 9 1 ((kI σ 9 1) - 1)) 6 0 (kI (sI σ 9 1 ((kI σ 9 1) - 1)) 6 1)) 8 1)) 6 1 (kI (sI (sI (sI σ 9 1 ((kI σ 9 1) - 1)) 6 0 (kI (sI σ 9 1 ((kI σ 9 1) - 1)) 6 1)) 8 0 (kI (sI (sI σ 9 1 ((kI σ 9 1) - 1)) 6 0 (kI (sI σ 9 1 ((kI σ 9 1) - 1)) 6 1)) 8 1)) 6 2)) 8 1 (kI (sI (sI (sI (sI σ 9 1 ((kI σ 9 1) - 1)) 6 0 (kI (sI σ 9 1 ((kI σ 9 1) - 1)) 6 1)) 8 0 (kI (sI (sI σ 9 1 ((kI σ 9 1) - 1)) 6 0 (kI (sI σ 9 1 ((kI σ 9 1) - 1)) 6 1)) 8 1)) 6 1 (kI (sI (sI (sI σ 9 1 ((kI σ 9 1) - 1)) 6 0 (kI (sI σ 9 1 ((kI σ 9 1) - 1)) 6 1)) 8 0 (kI (sI (sI σ 9 1 ((kI σ 9 1) - 1)) 6 0 (kI (sI σ 9 1 ((kI σ 9 1) - 1)) 6 1)) 8 1)) 6 2)) 8 2)) 6 2 (kI (sI (sI (sI (sI (sI σ 9 1 ((kI σ 9 1) - 1)) 6 0 (kI (sI σ 9 1 ((kI σ 9 1) - 1)) 6 1)) 8 0 (kI (sI (sI σ 9 1 ((kI σ 9 1) - 1)) 6 0 (kI (sI σ 9 1 ((kI σ 9 1) - 1)) 6 1)) 8 1)) 6 1 (kI (sI (sI (sI σ 9 1 ((kI σ 9 1) - 1)) 6 0 (kI (sI σ 9 1 ((kI σ 9 1) - 1)) 6 1)) 8 0 (kI (sI (sI σ 9 1 ((kI σ 9 1) - 1)) 6 0 (kI (sI σ 9 1 ((kI σ 9 1) - 1)) 6 1)) 8 1)) 6 2)) 8 1 (kI (sI (sI (sI (sI σ 9 1 ((kI σ 9 1) - 1)) 6 0 (kI (sI σ 9 1 ((kI σ 9 1) - 1)) 6 1)) 8 0 (kI (sI (sI σ 9 1 ((kI σ 9 1) - 1)) 6 0 (kI (sI σ 9 1 ((kI σ 9 1) - 1)) 6 1)) 8 1)) 6 1 (kI (sI (sI (sI σ 9 1 ((kI σ 9 1) - 1)) 6 0 (kI (sI σ 9 1 ((kI σ 9 1) - 1)) 6 1)) 8 0 (kI (sI (sI σ 9 1 ((kI σ 9 1) - 1)) 6 0 (kI (sI σ 9 1 ((kI σ 9 1) - 1)) 6 1)) 8 1)) 6 2)) 8 2)) 6 3)) 8 2 (kI (sI (sI (sI (sI (sI (sI σ 9 1 ((kI σ 9 1) - 1)) 6 0 (kI (sI σ 9 1 ((kI σ 9 1) - 1)) 6 1)) 8 0 (kI (sI (sI σ 9 1 ((kI σ 9 1) - 1)) 6 0 (kI (sI σ 9 1 ((kI σ 9 1) - 1)) 6 1)) 8 1)) 6 1 (kI (sI (sI (sI σ 9 1 ((kI σ 9 1) - 1)) 6 0 (kI (sI σ 9 1 ((kI σ 9 1) - 1)) 6 1)) 8 0 (kI (sI (sI σ 9 1 ((kI σ 9 1) - 1)) 6 0 (kI (sI σ 9 1 ((kI σ 9 1) - 1)) 6 1)) 8 1)) 6 2)) 8 1 (kI (sI (sI (sI (sI σ 9 1 ((kI σ 9 1) - 1)) 6 0 (kI (sI σ 9 1 ((kI σ 9 1) - 1)) 6 1)) 8 0 (kI (sI (sI σ 9 1 ((kI σ 9 1) - 1)) 6 0 (kI (sI σ 9 1 ((kI σ 9 1) - 1)) 6 1)) 8 1)) 6 1 (kI (sI (sI (sI σ 9 1 ((kI σ 9 1) - 1)) 6 0 (kI (sI σ 9 1 ((kI σ 9 1) - 1)) 6 1)) 8 0 (kI (sI (sI σ 9 1 ((kI σ 9 1) - 1)) 6 0 (kI (sI σ 9 1 ((kI σ 9 1) - 1)) 6 1)) 8 1)) 6 2)) 8 2)) 6 2 (kI (sI (sI (sI (sI (sI σ 9 1 ((kI σ 9 1) - 1)) 6 0 (kI (sI σ 9 1 ((kI σ 9 1) - 1)) 6 1)) 8 0 (kI (sI (sI σ 9 1 ((kI σ 9 1) - 1)) 6 0 (kI (sI σ 9 1 ((kI σ 9 1) - 1)) 6 1)) 8 1)) 6 1 (kI (sI (sI (sI σ 9 1 ((kI σ 9 1) - 1)) 6 0 (kI (sI σ 9 1 ((kI σ 9 1) - 1)) 6 1)) 8 0 (kI (sI (sI σ 9 1 ((kI σ 9 1) - 1)) 6 0 (kI (sI σ 9 1 ((kI σ 9 1) - 1)) 6 1)) 8 1)) 6 2)) 8 1 (kI (sI (sI (sI (sI σ 9 1 ((kI σ 9 1) - 1)) 6 0 (kI (sI σ 9 1 ((kI σ 9 1) - 1)) 6 1)) 8 0 (kI (sI (sI σ 9 1 ((kI σ 9 1) - 1)) 6 0 (kI (sI σ 9 1 ((kI σ 9 1) - 1)) 6 1)) 8 1)) 6 1 (kI (sI (sI (sI σ 9 1 ((kI σ 9 1) - 1)) 6 0 (kI (sI σ 9 1 ((kI σ 9 1) - 1)) 6 1)) 8 0 (kI (sI (sI σ 9 1 ((kI σ 9 1) - 1)) 6 0 (kI (sI σ 9 1 ((kI σ 9 1) - 1)) 6 1)) 8 1)) 6 2)) 8 2)) 6 3)) 8 3), ?_, ?_, ?_, fun f k hf => ?_⟩
  · rw [xf_removeFirst_1, kk_b_eq emp, if_pos rfl, if_neg (show ¬ kI σ 9 1 = 1 by rw [hs]; decide), if_neg (show ¬ kI σ 9 1 = 2 by rw [hs]; decide), if_neg (show ¬ kI σ 9 1 = 3 by rw [hs]; decide)]
  · have hr := kr_res (kI σ 8 0) h ht (kr_on10 h ht hst)
    refine kr_qupd hr (Or.inl rfl) (by decide) (fun f i h1 h2 h3 => ?_) (fun _ _ => rfl) (fun f i h1 h2 => ?_) ⟨3, by decide, ?_, ?_, fun i hi => ?_⟩
    · by_cases z : f = 15 ∧ i = t
      · obtain ⟨rfl, rfl⟩ := z
        rw [kI_sI, if_pos ⟨rfl, rfl⟩, kI_sI, if_pos ⟨rfl, rfl⟩]
      · rw [kI_n z, kI_n (by omega), kI_n (by omega), kI_n (by omega), kI_n (by omega), kI_n (by omega), kI_n (by omega), kI_n (by omega), kI_n z]
    · rw [mrem_1, mI_n (by omega), mI_n (by omega), mI_n (by omega), mI_n (by omega), mI_n (by omega), mI_n (by omega), mI_n (by omega)]
      rw [show mI μ 21 4 = kI σ 8 0 from a0.2.symm]
    · exact (show _ = kI σ 9 1 - 1 from rfl).trans (by rw [hs]; decide)
    · exact (show _ = mI μ 19 1 - 1 from rfl).trans (by rw [j3]; decide)
    · rcases (show i = 0 ∨ i = 1 ∨ i = 2 by omega) with rfl | rfl | rfl
      · exact ⟨by first | rfl | exact a0.1 | exact a1.1 | exact a2.1 | exact a3.1, by first | rfl | exact a0.2 | exact a1.2 | exact a2.2 | exact a3.2⟩
      · exact ⟨by first | rfl | exact a0.1 | exact a1.1 | exact a2.1 | exact a3.1, by first | rfl | exact a0.2 | exact a1.2 | exact a2.2 | exact a3.2⟩
      · exact ⟨by first | rfl | exact a0.1 | exact a1.1 | exact a2.1 | exact a3.1, by first | rfl | exact a0.2 | exact a1.2 | exact a2.2 | exact a3.2⟩
  · exact (show _ = kI σ 9 1 - 1 from rfl).trans (by rw [hs]; decide)
  · rw [kI_n (by omega), kI_n (by omega), kI_n (by omega), kI_n (by omega), kI_n (by omega), kI_n (by omega), kI_n (by omega)]
theorem kr_rem {N B t q j : Nat} {σ : kx_S} {μ : km_S} (h : kr N B 2 σ μ) (ht : t < 8) (hst : kI σ 10 t = 1) (hq : q < 2) (hj : 0 < j) (hj4 : j ≤ 4) (hs : kI σ 9 q = nI j) : ∃ R, xf_removeFirst σ q = (kI σ (7 + q) 0, R) ∧ kr N B q (sI R 15 t (kI σ (7 + q) 0)) (mrem μ q t) ∧ kI R 9 q = nI (j - 1) ∧ ∀ f k, 10 ≤ f → kI R f k = kI σ f k := by
  rcases (show q = 0 ∨ q = 1 by omega) with rfl | rfl
  · rcases (show j = 1 ∨ j = 2 ∨ j = 3 ∨ j = 4 by omega) with rfl | rfl | rfl | rfl
    · exact kr_rem_0_1 h ht hst hs
    · exact kr_rem_0_2 h ht hst hs
    · exact kr_rem_0_3 h ht hst hs
    · exact kr_rem_0_4 h ht hst hs
  · rcases (show j = 1 ∨ j = 2 ∨ j = 3 ∨ j = 4 by omega) with rfl | rfl | rfl | rfl
    · exact kr_rem_1_1 h ht hst hs
    · exact kr_rem_1_2 h ht hst hs
    · exact kr_rem_1_3 h ht hst hs
    · exact kr_rem_1_4 h ht hst hs
theorem xf_full {σ : kx_S} {k : Nat} (hk : k < 2) : xf_isFull σ k = (if kI σ 9 k = 4 then 1 else 0, σ) := by
  rcases (show k = 0 ∨ k = 1 by omega) with rfl | rfl
  · show xf_isFull_0 σ = _
    unfold xf_isFull_0
    split <;> rfl
  · show xf_isFull_1 σ = _
    unfold xf_isFull_1
    split <;> rfl
theorem xf_empty {σ : kx_S} {k : Nat} (hk : k < 2) : xf_isEmpty σ k = (if kI σ 9 k = 0 then 1 else 0, σ) := by
  rcases (show k = 0 ∨ k = 1 by omega) with rfl | rfl
  · show xf_isEmpty_0 σ = _
    unfold xf_isEmpty_0
    split <;> rfl
  · show xf_isEmpty_1 σ = _
    unfold xf_isEmpty_1
    split <;> rfl
theorem kk_i40 : ∀ k, k < 2 → (∀ m, m < 4 → ¬ 40 + nI k = 10 + nI m) ∧ (∀ m, m < 4 → ¬ 50 + nI k = 10 + nI m) ∧ ∀ q, q < 2 → (40 + nI k = 40 + nI q → k = q) ∧ (50 + nI k = 50 + nI q → k = q) ∧ ¬ 40 + nI k = 50 + nI q ∧ ¬ 50 + nI k = 40 + nI q := by decide +kernel
theorem mblock_msg (μ : km_S) {t : Nat} (ht : t < 8) (w d v y : Int32) (f i : Nat) : mI (sM (sM (mf_block μ (nI t) w d) 13 t v) 14 t y) f i = mI (mf_block (sM (sM μ 13 t v) 14 t y) (nI t) w d) f i := by
  rw [mI_sM, mI_sM, mblock_c μ ht, mblock_c _ ht]
  by_cases c : f = 14 ∧ i = t
  · obtain ⟨rfl, rfl⟩ := c
    simp [mI_sM]
  · rw [if_neg c]
    by_cases c2 : f = 13 ∧ i = t
    · obtain ⟨rfl, rfl⟩ := c2
      simp [mI_sM]
    · rw [if_neg c2]
      simp [mI_sM, c, c2]
theorem kr_ne {N B x : Nat} {σ : kx_S} {μ : km_S} {t : Nat} (h : kr N B x σ μ) (ht : t < 8) (hn : ¬ kI σ 16 t = 0) : kI σ 10 t = 2 := by
  by_cases c : kI σ 10 t = 2
  · exact c
  · exact absurd ((h.2.2.2.2.2 t ht).2.2.2.1 c) hn
theorem kr_send {N B : Nat} {σ : kx_S} {μ : km_S} (q rank value : Int32) (hN : N < 2 ^ 30) (h : kr N B 2 σ μ) : kr_ri (N + 1) B (xf_send σ q rank value) (mf_send μ q rank value) := by
  obtain ⟨o1, s1, e1⟩ : ∃ o1 s1, xf_runner σ = (o1, s1) := ⟨_, _, rfl⟩
  obtain ⟨r1, u1, e2⟩ : ∃ r1 u1, mf_running μ = (r1, u1) := ⟨_, _, rfl⟩
  obtain ⟨h1, -, ha⟩ := kr_run hN h e1 e2
  have no : kr_ri (N + 1) B ((-1 : Int32), s1) ((-1 : Int32), u1) := ⟨rfl, kr_mono (Nat.le_succ N) h1⟩
  rw [xf_send, mf_send, kk_b_eq e1, kk_b_eq e2]
  by_cases c : mf_out q 2 = 0
  · have c2 : ¬ xf_isBelow q 2 = 0 := fun z => (kk_bo q 2).mp z c
    rw [if_pos c]
    by_cases d : mf_out rank 10 = 0
    · have d2 : ¬ xf_isBelow rank 10 = 0 := fun z => (kk_bo rank 10).mp z d
      rw [if_pos d]
      rcases ha with ⟨rfl, rfl⟩ | ⟨t, ht, rfl, rfl, hs⟩
      · rw [kk_o_none, if_neg c2, if_neg d2, if_neg (show ¬ (0 : Int32) ≤ -1 by decide)]; exact no
      · obtain ⟨k, hk, rfl⟩ := vp_in_of (km_in (n := 2) (by decide) c) (by decide)
        obtain ⟨j, j1, j2, j3, -⟩ := h1.2.2.2.1 k hk
        have n0 : ¬ kI s1 10 t = 0 := by rw [hs]; decide
        rw [kk_o_some, if_neg c2, if_neg d2, if_pos (nI_pos' (by omega)), nI_clamp (n := k) (by omega), nI_clamp (n := t) (by omega), kk_b_eq (xf_full hk), j2, j3]
        by_cases g : j = 4
        · subst g
          rw [if_pos (show nI 4 = 4 from rfl), if_neg (show ¬ (1 : Int32) = 0 by decide), if_pos (show nI 4 = 4 from rfl), kk_v, kk_v]
          have h2 := kr_msg rank value h1 ht
          have h3 := kr_block (w := 40 + nI k) (d := 0) (D := 1000000000000) h2 ht (by rw [kI_sI, if_neg (by omega), kI_sI, if_neg (by omega)]; exact n0) (Or.inl ⟨rfl, rfl⟩) (fun m hm z => absurd z ((kk_i40 k hk).1 m hm)) (fun q hq _ => ⟨fun z => by
            obtain rfl := ((kk_i40 k hk).2.2 q hq).1 z
            rw [kI_sI, if_neg (by omega), kI_sI, if_neg (by omega), j2]; rfl, fun z => absurd z ((kk_i40 k hk).2.2 q hq).2.2.1⟩)
          exact ⟨rfl, kr_fr h3 (fun _ _ _ => rfl) (fun _ _ => rfl) (fun f i _ => mblock_msg u1 ht _ _ _ _ f i)⟩
        · have g4 : ¬ nI j = 4 := fun z => g ((nI_eq (a := j) (b := 4) (by omega) (by omega)).mp z)
          rw [if_neg g4, if_pos rfl, if_neg g4, kk_v, xf_arrive, nI_clamp (n := k) (by omega)]
          have h2 := kr_res 0 h1 ht (kr_on10 h1 ht hs)
          obtain ⟨o3, s3, e3⟩ : ∃ o3 s3, xf_firstWaiter (sI s1 15 t 0) (50 + nI k) = (o3, s3) := ⟨_, _, rfl⟩
          obtain ⟨r3, u3, e4⟩ : ∃ r3 u3, mf_firstWaiter (sM u1 11 t 0) (50 + nI k) = (r3, u3) := ⟨_, _, rfl⟩
          obtain ⟨h3, hb⟩ := kr_fw hN h2 e3 e4
          rw [kk_b_eq e3, kk_b_eq e4]
          rcases hb with ⟨rfl, rfl⟩ | ⟨t3, ht3, rfl, rfl, hs3, hon3⟩
          · rw [kk_o_none, if_neg (show ¬ (0 : Int32) ≤ -1 by decide), kk_v, kk_v]
            have sz : kI s3 9 k = nI j := by rw [xf_fw_fr e3 9 k (by decide), kI_sI, if_neg (by omega)]; exact j2
            obtain ⟨h4, z4, f4⟩ := kr_ins (j := j) rank value h3 (Or.inl rfl) hk (by omega) sz
            refine ⟨rfl, kr_mono (Nat.le_succ N) (kr_fromq h4 (fun t5 ht5 => ⟨fun z => ?_, fun z => ?_⟩))⟩
            · rw [f4 16 t5 (by decide)] at z
              have := (h3.2.2.2.2.1 t5 k ht5 hk (by omega)).1 z
              rw [sz] at this
              exact absurd this g4
            · rw [f4 16 t5 (by decide)] at z
              exact absurd ⟨kr_ne h3 ht5 (fun y => (kk_z40 hk).2 (by rw [← z]; exact y.symm)), z⟩ (xf_fw_none e3 t5 ht5)
          · rw [kk_o_some, if_pos (nI_pos' (by omega)), kk_v, kk_v, nI_clamp (n := t3) (by omega)]
            exact ⟨rfl, kr_ready h3 ht3 (by rw [hs3]; decide)⟩
    · rw [if_neg d]
      rcases ha with ⟨rfl, rfl⟩ | ⟨t, ht, rfl, rfl, hs⟩
      · rw [kk_o_none, if_neg c2, if_pos ((kk_bo rank 10).mpr d)]; exact no
      · rw [kk_o_some, if_neg c2, if_pos ((kk_bo rank 10).mpr d)]; exact no
  · rw [if_neg c]
    rcases ha with ⟨rfl, rfl⟩ | ⟨t, ht, rfl, rfl, hs⟩
    · rw [kk_o_none, if_pos ((kk_bo q 2).mpr c)]; exact no
    · rw [kk_o_some, if_pos ((kk_bo q 2).mpr c)]; exact no
theorem mf_rec_eq (μ : km_S) {k : Nat} (hk : k < 2) : mf_receive μ (nI k) = kk_b (mf_running μ) (fun r1 s1 => if 0 ≤ r1 then (if mI s1 19 k = 0 then kk_v (mf_block s1 r1 (50 + nI k) 0) (fun s5 => (1, s5)) else kk_b (mf_firstWaiter (mrem s1 k r1.toNatClampNeg) (40 + nI k)) (fun r2 s2 => if 0 ≤ r2 then kk_v (mf_comeIn s2 (nI k) (mI s2 13 r2.toNatClampNeg) (mI s2 14 r2.toNatClampNeg)) (fun s3 => kk_v (mf_ready (sM s3 11 r2.toNatClampNeg 0) r2) (fun s4 => (0, s4))) else (0, s2))) else ((-1), s1)) := by
  rcases (show k = 0 ∨ k = 1 by omega) with rfl | rfl
  · rw [mf_receive]
    simp only [show (mf_out (nI 0) 2 = 0) = True from eq_true (by decide), show (nI 0 = 0) = True from eq_true rfl, if_true]
    rfl
  · rw [mf_receive]
    simp only [show (mf_out (nI 1) 2 = 0) = True from eq_true (by decide), show (nI 1 = 0) = False from eq_false (by decide), if_true, if_false]
    rfl
theorem kr_receive {N B : Nat} {σ : kx_S} {μ : km_S} (q : Int32) (hN : N < 2 ^ 30) (h : kr N B 2 σ μ) : kr_ri (N + 1) B (xf_receive σ q) (mf_receive μ q) := by
  obtain ⟨o1, s1, e1⟩ : ∃ o1 s1, xf_runner σ = (o1, s1) := ⟨_, _, rfl⟩
  obtain ⟨r1, u1, e2⟩ : ∃ r1 u1, mf_running μ = (r1, u1) := ⟨_, _, rfl⟩
  obtain ⟨h1, -, ha⟩ := kr_run hN h e1 e2
  have no : kr_ri (N + 1) B ((-1 : Int32), s1) ((-1 : Int32), u1) := ⟨rfl, kr_mono (Nat.le_succ N) h1⟩
  by_cases c : mf_out q 2 = 0
  · have c2 : ¬ xf_isBelow q 2 = 0 := fun z => (kk_bo q 2).mp z c
    obtain ⟨k, hk, rfl⟩ := vp_in_of (km_in (n := 2) (by decide) c) (by decide)
    rw [xf_receive, mf_rec_eq μ hk, kk_b_eq e1, kk_b_eq e2]
    rcases ha with ⟨rfl, rfl⟩ | ⟨t, ht, rfl, rfl, hs⟩
    · rw [kk_o_none, if_neg c2, if_neg (show ¬ (0 : Int32) ≤ -1 by decide)]; exact no
    · obtain ⟨j, j1, j2, j3, -⟩ := h1.2.2.2.1 k hk
      have n0 : ¬ kI s1 10 t = 0 := by rw [hs]; decide
      rw [kk_o_some, if_neg c2, if_pos (nI_pos' (by omega)), nI_clamp (n := k) (by omega), nI_clamp (n := t) (by omega), kk_b_eq (xf_empty hk), j2, j3]
      rcases Nat.eq_zero_or_pos j with rfl | hj
      · rw [if_pos (show nI 0 = 0 from rfl), if_neg (show ¬ (1 : Int32) = 0 by decide), if_pos (show nI 0 = 0 from rfl), kk_v, kk_v]
        exact ⟨rfl, kr_block h1 ht n0 (Or.inl ⟨rfl, rfl⟩) (fun m hm z => absurd z ((kk_i40 k hk).2.1 m hm)) (fun q hq _ => ⟨fun z => absurd z ((kk_i40 k hk).2.2 q hq).2.2.2, fun z => by
          obtain rfl := ((kk_i40 k hk).2.2 q hq).2.1 z
          rw [j2]; rfl⟩)⟩
      · have g0 : ¬ nI j = 0 := nI_ne0 hj (by omega)
        obtain ⟨R, eR, h2, zR, fR⟩ := kr_rem h1 ht hs hk hj j1 j2
        rw [if_neg g0, if_pos rfl, if_neg g0, kk_b_eq eR]
        obtain ⟨o4, s4, e3⟩ : ∃ o4 s4, xf_firstWaiter (sI R 15 t (kI s1 (7 + k) 0)) (40 + nI k) = (o4, s4) := ⟨_, _, rfl⟩
        obtain ⟨r4, u4, e4⟩ : ∃ r4 u4, mf_firstWaiter (mrem u1 k t) (40 + nI k) = (r4, u4) := ⟨_, _, rfl⟩
        obtain ⟨h4, hb⟩ := kr_fw hN h2 e3 e4
        rw [kk_b_eq e3, kk_b_eq e4]
        have f4 : ∀ a, kI s4 16 a = kI s1 16 a := fun a => by rw [xf_fw_fr e3 16 a (by decide), kI_sI, if_neg (by omega), fR 16 a (by decide)]
        have no50 : ∀ a, a < 8 → ¬ kI s1 16 a = 50 + nI k := fun a ha8 z => by
          have := (h1.2.2.2.2.1 a k ha8 hk (by omega)).2 z
          rw [j2] at this
          exact g0 this
        rcases hb with ⟨rfl, rfl⟩ | ⟨t4, ht4, rfl, rfl, hs4, hon4⟩
        · rw [kk_o_none, if_neg (show ¬ (0 : Int32) ≤ -1 by decide)]
          refine ⟨rfl, kr_mono (Nat.le_succ N) (kr_fromq h4 (fun a ha8 => ⟨fun z => ?_, fun z => ?_⟩))⟩
          · exact absurd ⟨kr_ne h4 ha8 (fun y => (kk_z40 hk).1 (by rw [← z]; exact y.symm)), z⟩ (xf_fw_none e3 a ha8)
          · rw [f4] at z; exact absurd z (no50 a ha8)
        · have j4 : j = 4 := by
            rw [f4] at hon4
            have := (h1.2.2.2.2.1 t4 k ht4 hk (by omega)).1 hon4
            rw [j2] at this
            exact (nI_eq (a := j) (b := 4) (by omega) (by omega)).mp this
          rw [kk_o_some, if_pos (nI_pos' (by omega)), nI_clamp (n := t4) (by omega), kk_v, kk_v, kk_v, kk_v, xf_arrive, nI_clamp (n := k) (by omega)]
          obtain ⟨o5, s5, e5⟩ : ∃ o5 s5, xf_firstWaiter s4 (50 + nI k) = (o5, s5) := ⟨_, _, rfl⟩
          obtain ⟨r5, u5, e6⟩ : ∃ r5 u5, mf_firstWaiter u4 (50 + nI k) = (r5, u5) := ⟨_, _, rfl⟩
          obtain ⟨-, hc⟩ := kr_fw hN h4 e5 e6
          have h5 : kr N B k s5 u4 := kr_fr h4 (fun f i hf => xf_fw_fr e5 f i hf) (fun f i => by rw [xf_fw_st e5]; exact (xf_work_fr s4 f i).2) (fun _ _ _ => rfl)
          rw [kk_b_eq e5]
          rcases hc with ⟨rfl, -⟩ | ⟨t5, ht5, -, -, hs5, hon5⟩
          · rw [kk_o_none, kk_v]
            have T4 := h4.2.2.2.2.2 t4 ht4
            rw [← T4.1.2.2.2.2.2.1, ← T4.1.2.2.2.2.2.2]
            have sz : kI s5 9 k = nI 3 := by rw [xf_fw_fr e5 9 k (by decide), xf_fw_fr e3 9 k (by decide), kI_sI, if_neg (by omega), zR, j4]
            obtain ⟨h6, z6, f6⟩ := kr_ins (j := 3) (kI s4 19 t4) (kI s4 20 t4) h5 (Or.inr rfl) hk (by decide) sz
            have h7 := kr_ready (res := 0) h6 ht4 (by rw [f6 10 t4 (by decide), xf_fw_fr e5 10 t4 (by decide), hs4]; decide)
            refine ⟨rfl, kr_fromq h7 (fun a ha8 => ⟨fun _ => ?_, fun z => ?_⟩)⟩
            · rw [xready_I, if_neg (by omega), if_neg (by omega), if_neg (by omega), if_neg (by omega), z6]; rfl
            · rw [xready_I, if_neg (by omega), if_neg (by omega)] at z
              by_cases y : a = t4
              · rw [if_pos ⟨rfl, y⟩] at z; exact absurd z (kk_z40 hk).2
              · rw [if_neg (fun w => y w.2), if_neg (by omega), f6 16 a (by decide), xf_fw_fr e5 16 a (by decide), f4] at z
                exact absurd z (no50 a ha8)
          · rw [xf_fw_fr e5 16 t5 (by decide), f4] at hon5
            exact absurd hon5 (no50 t5 ht5)
  · rw [xf_receive, mf_receive, kk_b_eq e1, kk_b_eq e2, if_neg c]
    rcases ha with ⟨rfl, rfl⟩ | ⟨t, ht, rfl, rfl, hs⟩
    · rw [kk_o_none, if_pos ((kk_bo q 2).mpr c)]; exact no
    · rw [kk_o_some, if_pos ((kk_bo q 2).mpr c)]; exact no
end
