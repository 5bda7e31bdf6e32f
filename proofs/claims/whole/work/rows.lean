section
-- ===== PART A: goes FIRST, ahead of the names: the tables' words, and 'selects' of the private methods out of them =====
/-- a private method of a class that the tables say can be made, by its rows of tables_1 -/
def lw_okq (q : MethodName × Nat) : Prop := (q.1.cls ≠ "java/lang/invoke/MethodHandle" ∧ q.1.cls ≠ "java/lang/invoke/VarHandle") ∧ Cond.instantiable q.1.cls q.2 ∈ tables_1 ∧ Cond.privateMethod q.1 ∈ tables_1 ∧ Cond.instanceMethod q.1 ∈ tables_1
theorem lw_p0 : lw_okq (⟨"PriorityKernel", "leastFree", "()LPriorityKernel$Task;"⟩, 8) := ⟨⟨by decide +kernel, by decide +kernel⟩, List.mem_of_getElem? (i := 7) (by decide +kernel), List.mem_of_getElem? (i := 137) (by decide +kernel), List.mem_of_getElem? (i := 138) (by decide +kernel)⟩
theorem lw_p1 : lw_okq (⟨"PriorityKernel", "makeReady", "(LPriorityKernel$Task;I)V"⟩, 8) := ⟨⟨by decide +kernel, by decide +kernel⟩, List.mem_of_getElem? (i := 7) (by decide +kernel), List.mem_of_getElem? (i := 141) (by decide +kernel), List.mem_of_getElem? (i := 142) (by decide +kernel)⟩
theorem lw_p2 : lw_okq (⟨"PriorityKernel", "runner", "()LPriorityKernel$Task;"⟩, 8) := ⟨⟨by decide +kernel, by decide +kernel⟩, List.mem_of_getElem? (i := 7) (by decide +kernel), List.mem_of_getElem? (i := 157) (by decide +kernel), List.mem_of_getElem? (i := 158) (by decide +kernel)⟩
theorem lw_p3 : lw_okq (⟨"PriorityKernel", "foremost", "(II)LPriorityKernel$Task;"⟩, 8) := ⟨⟨by decide +kernel, by decide +kernel⟩, List.mem_of_getElem? (i := 7) (by decide +kernel), List.mem_of_getElem? (i := 161) (by decide +kernel), List.mem_of_getElem? (i := 162) (by decide +kernel)⟩
theorem lw_p4 : lw_okq (⟨"PriorityKernel", "workOutEffective", "()V"⟩, 8) := ⟨⟨by decide +kernel, by decide +kernel⟩, List.mem_of_getElem? (i := 7) (by decide +kernel), List.mem_of_getElem? (i := 165) (by decide +kernel), List.mem_of_getElem? (i := 166) (by decide +kernel)⟩
theorem lw_p5 : lw_okq (⟨"PriorityKernel", "inheritOnce", "()Z"⟩, 8) := ⟨⟨by decide +kernel, by decide +kernel⟩, List.mem_of_getElem? (i := 7) (by decide +kernel), List.mem_of_getElem? (i := 169) (by decide +kernel), List.mem_of_getElem? (i := 170) (by decide +kernel)⟩
theorem lw_p6 : lw_okq (⟨"PriorityKernel", "heirOf", "(LPriorityKernel$Task;)I"⟩, 8) := ⟨⟨by decide +kernel, by decide +kernel⟩, List.mem_of_getElem? (i := 7) (by decide +kernel), List.mem_of_getElem? (i := 173) (by decide +kernel), List.mem_of_getElem? (i := 174) (by decide +kernel)⟩
theorem lw_p7 : lw_okq (⟨"PriorityKernel", "startTurn", "(LPriorityKernel$Task;)V"⟩, 8) := ⟨⟨by decide +kernel, by decide +kernel⟩, List.mem_of_getElem? (i := 7) (by decide +kernel), List.mem_of_getElem? (i := 181) (by decide +kernel), List.mem_of_getElem? (i := 182) (by decide +kernel)⟩
theorem lw_p8 : lw_okq (⟨"PriorityKernel", "take", "(LPriorityKernel$Task;I)V"⟩, 8) := ⟨⟨by decide +kernel, by decide +kernel⟩, List.mem_of_getElem? (i := 7) (by decide +kernel), List.mem_of_getElem? (i := 189) (by decide +kernel), List.mem_of_getElem? (i := 190) (by decide +kernel)⟩
theorem lw_p9 : lw_okq (⟨"PriorityKernel", "makeOwner", "(LPriorityKernel$Task;I)V"⟩, 8) := ⟨⟨by decide +kernel, by decide +kernel⟩, List.mem_of_getElem? (i := 7) (by decide +kernel), List.mem_of_getElem? (i := 193) (by decide +kernel), List.mem_of_getElem? (i := 194) (by decide +kernel)⟩
theorem lw_p10 : lw_okq (⟨"PriorityKernel", "block", "(LPriorityKernel$Task;IJ)V"⟩, 8) := ⟨⟨by decide +kernel, by decide +kernel⟩, List.mem_of_getElem? (i := 7) (by decide +kernel), List.mem_of_getElem? (i := 197) (by decide +kernel), List.mem_of_getElem? (i := 198) (by decide +kernel)⟩
theorem lw_p11 : lw_okq (⟨"PriorityKernel", "give", "(I)V"⟩, 8) := ⟨⟨by decide +kernel, by decide +kernel⟩, List.mem_of_getElem? (i := 7) (by decide +kernel), List.mem_of_getElem? (i := 205) (by decide +kernel), List.mem_of_getElem? (i := 206) (by decide +kernel)⟩
theorem lw_p12 : lw_okq (⟨"PriorityKernel", "firstWaiter", "(I)LPriorityKernel$Task;"⟩, 8) := ⟨⟨by decide +kernel, by decide +kernel⟩, List.mem_of_getElem? (i := 7) (by decide +kernel), List.mem_of_getElem? (i := 209) (by decide +kernel), List.mem_of_getElem? (i := 210) (by decide +kernel)⟩
theorem lw_p13 : lw_okq (⟨"PriorityKernel", "deadlineAfter", "(I)J"⟩, 8) := ⟨⟨by decide +kernel, by decide +kernel⟩, List.mem_of_getElem? (i := 7) (by decide +kernel), List.mem_of_getElem? (i := 220) (by decide +kernel), List.mem_of_getElem? (i := 221) (by decide +kernel)⟩
theorem lw_p14 : lw_okq (⟨"PriorityKernel", "endAwait", "(LPriorityKernel$Task;I)V"⟩, 8) := ⟨⟨by decide +kernel, by decide +kernel⟩, List.mem_of_getElem? (i := 7) (by decide +kernel), List.mem_of_getElem? (i := 228) (by decide +kernel), List.mem_of_getElem? (i := 229) (by decide +kernel)⟩
theorem lw_p15 : lw_okq (⟨"PriorityKernel", "arrive", "(III)V"⟩, 8) := ⟨⟨by decide +kernel, by decide +kernel⟩, List.mem_of_getElem? (i := 7) (by decide +kernel), List.mem_of_getElem? (i := 248) (by decide +kernel), List.mem_of_getElem? (i := 249) (by decide +kernel)⟩
def lw_privs_1 : List (MethodName × Nat) := [(⟨"PriorityKernel", "leastFree", "()LPriorityKernel$Task;"⟩, 8), (⟨"PriorityKernel", "makeReady", "(LPriorityKernel$Task;I)V"⟩, 8), (⟨"PriorityKernel", "runner", "()LPriorityKernel$Task;"⟩, 8), (⟨"PriorityKernel", "foremost", "(II)LPriorityKernel$Task;"⟩, 8), (⟨"PriorityKernel", "workOutEffective", "()V"⟩, 8), (⟨"PriorityKernel", "inheritOnce", "()Z"⟩, 8), (⟨"PriorityKernel", "heirOf", "(LPriorityKernel$Task;)I"⟩, 8), (⟨"PriorityKernel", "startTurn", "(LPriorityKernel$Task;)V"⟩, 8), (⟨"PriorityKernel", "take", "(LPriorityKernel$Task;I)V"⟩, 8), (⟨"PriorityKernel", "makeOwner", "(LPriorityKernel$Task;I)V"⟩, 8), (⟨"PriorityKernel", "block", "(LPriorityKernel$Task;IJ)V"⟩, 8), (⟨"PriorityKernel", "give", "(I)V"⟩, 8), (⟨"PriorityKernel", "firstWaiter", "(I)LPriorityKernel$Task;"⟩, 8), (⟨"PriorityKernel", "deadlineAfter", "(I)J"⟩, 8), (⟨"PriorityKernel", "endAwait", "(LPriorityKernel$Task;I)V"⟩, 8), (⟨"PriorityKernel", "arrive", "(III)V"⟩, 8)]
theorem lw_r1 : ∀ q ∈ lw_privs_1, lw_okq q := List.forall_mem_cons.mpr ⟨lw_p0, List.forall_mem_cons.mpr ⟨lw_p1, List.forall_mem_cons.mpr ⟨lw_p2, List.forall_mem_cons.mpr ⟨lw_p3, List.forall_mem_cons.mpr ⟨lw_p4, List.forall_mem_cons.mpr ⟨lw_p5, List.forall_mem_cons.mpr ⟨lw_p6, List.forall_mem_cons.mpr ⟨lw_p7, List.forall_mem_cons.mpr ⟨lw_p8, List.forall_mem_cons.mpr ⟨lw_p9, List.forall_mem_cons.mpr ⟨lw_p10, List.forall_mem_cons.mpr ⟨lw_p11, List.forall_mem_cons.mpr ⟨lw_p12, List.forall_mem_cons.mpr ⟨lw_p13, List.forall_mem_cons.mpr ⟨lw_p14, List.forall_mem_cons.mpr ⟨lw_p15, fun _ h => absurd h List.not_mem_nil⟩⟩⟩⟩⟩⟩⟩⟩⟩⟩⟩⟩⟩⟩⟩⟩
theorem lw_p16 : lw_okq (⟨"PriorityKernel", "ownsAny", "(LPriorityKernel$Task;)Z"⟩, 8) := ⟨⟨by decide +kernel, by decide +kernel⟩, List.mem_of_getElem? (i := 7) (by decide +kernel), List.mem_of_getElem? (i := 282) (by decide +kernel), List.mem_of_getElem? (i := 283) (by decide +kernel)⟩
theorem lw_p17 : lw_okq (⟨"PriorityKernel", "tickOnce", "()V"⟩, 8) := ⟨⟨by decide +kernel, by decide +kernel⟩, List.mem_of_getElem? (i := 7) (by decide +kernel), List.mem_of_getElem? (i := 290) (by decide +kernel), List.mem_of_getElem? (i := 291) (by decide +kernel)⟩
theorem lw_p18 : lw_okq (⟨"PriorityKernel", "useTick", "(LPriorityKernel$Task;)V"⟩, 8) := ⟨⟨by decide +kernel, by decide +kernel⟩, List.mem_of_getElem? (i := 7) (by decide +kernel), List.mem_of_getElem? (i := 294) (by decide +kernel), List.mem_of_getElem? (i := 295) (by decide +kernel)⟩
theorem lw_p19 : lw_okq (⟨"PriorityKernel", "endWait", "(LPriorityKernel$Task;)V"⟩, 8) := ⟨⟨by decide +kernel, by decide +kernel⟩, List.mem_of_getElem? (i := 7) (by decide +kernel), List.mem_of_getElem? (i := 298) (by decide +kernel), List.mem_of_getElem? (i := 299) (by decide +kernel)⟩
theorem lw_p20 : lw_okq (⟨"PriorityKernel", "readyThreads", "()I"⟩, 8) := ⟨⟨by decide +kernel, by decide +kernel⟩, List.mem_of_getElem? (i := 7) (by decide +kernel), List.mem_of_getElem? (i := 319) (by decide +kernel), List.mem_of_getElem? (i := 320) (by decide +kernel)⟩
theorem lw_p21 : lw_okq (⟨"PriorityKernelModel", "weigh", "()V"⟩, 23) := ⟨⟨by decide +kernel, by decide +kernel⟩, List.mem_of_getElem? (i := 326) (by decide +kernel), List.mem_of_getElem? (i := 407) (by decide +kernel), List.mem_of_getElem? (i := 408) (by decide +kernel)⟩
theorem lw_p22 : lw_okq (⟨"PriorityKernelModel", "ready", "(I)V"⟩, 23) := ⟨⟨by decide +kernel, by decide +kernel⟩, List.mem_of_getElem? (i := 326) (by decide +kernel), List.mem_of_getElem? (i := 415) (by decide +kernel), List.mem_of_getElem? (i := 416) (by decide +kernel)⟩
theorem lw_p23 : lw_okq (⟨"PriorityKernelModel", "newStamp", "()I"⟩, 23) := ⟨⟨by decide +kernel, by decide +kernel⟩, List.mem_of_getElem? (i := 326) (by decide +kernel), List.mem_of_getElem? (i := 419) (by decide +kernel), List.mem_of_getElem? (i := 420) (by decide +kernel)⟩
theorem lw_p24 : lw_okq (⟨"PriorityKernelModel", "out", "(II)Z"⟩, 23) := ⟨⟨by decide +kernel, by decide +kernel⟩, List.mem_of_getElem? (i := 326) (by decide +kernel), List.mem_of_getElem? (i := 427) (by decide +kernel), List.mem_of_getElem? (i := 428) (by decide +kernel)⟩
theorem lw_p25 : lw_okq (⟨"PriorityKernelModel", "block", "(III)V"⟩, 23) := ⟨⟨by decide +kernel, by decide +kernel⟩, List.mem_of_getElem? (i := 326) (by decide +kernel), List.mem_of_getElem? (i := 440) (by decide +kernel), List.mem_of_getElem? (i := 441) (by decide +kernel)⟩
theorem lw_p26 : lw_okq (⟨"PriorityKernelModel", "give", "(I)V"⟩, 23) := ⟨⟨by decide +kernel, by decide +kernel⟩, List.mem_of_getElem? (i := 326) (by decide +kernel), List.mem_of_getElem? (i := 448) (by decide +kernel), List.mem_of_getElem? (i := 449) (by decide +kernel)⟩
theorem lw_p27 : lw_okq (⟨"PriorityKernelModel", "firstWaiter", "(I)I"⟩, 23) := ⟨⟨by decide +kernel, by decide +kernel⟩, List.mem_of_getElem? (i := 326) (by decide +kernel), List.mem_of_getElem? (i := 452) (by decide +kernel), List.mem_of_getElem? (i := 453) (by decide +kernel)⟩
theorem lw_p28 : lw_okq (⟨"PriorityKernelModel", "retake", "(II)V"⟩, 23) := ⟨⟨by decide +kernel, by decide +kernel⟩, List.mem_of_getElem? (i := 326) (by decide +kernel), List.mem_of_getElem? (i := 464) (by decide +kernel), List.mem_of_getElem? (i := 465) (by decide +kernel)⟩
theorem lw_p29 : lw_okq (⟨"PriorityKernelModel", "comeIn", "(III)V"⟩, 23) := ⟨⟨by decide +kernel, by decide +kernel⟩, List.mem_of_getElem? (i := 326) (by decide +kernel), List.mem_of_getElem? (i := 480) (by decide +kernel), List.mem_of_getElem? (i := 481) (by decide +kernel)⟩
theorem lw_p30 : lw_okq (⟨"PriorityKernelModel", "deadlineComes", "(I)V"⟩, 23) := ⟨⟨by decide +kernel, by decide +kernel⟩, List.mem_of_getElem? (i := 326) (by decide +kernel), List.mem_of_getElem? (i := 504) (by decide +kernel), List.mem_of_getElem? (i := 505) (by decide +kernel)⟩
def lw_privs_2 : List (MethodName × Nat) := [(⟨"PriorityKernel", "ownsAny", "(LPriorityKernel$Task;)Z"⟩, 8), (⟨"PriorityKernel", "tickOnce", "()V"⟩, 8), (⟨"PriorityKernel", "useTick", "(LPriorityKernel$Task;)V"⟩, 8), (⟨"PriorityKernel", "endWait", "(LPriorityKernel$Task;)V"⟩, 8), (⟨"PriorityKernel", "readyThreads", "()I"⟩, 8), (⟨"PriorityKernelModel", "weigh", "()V"⟩, 23), (⟨"PriorityKernelModel", "ready", "(I)V"⟩, 23), (⟨"PriorityKernelModel", "newStamp", "()I"⟩, 23), (⟨"PriorityKernelModel", "out", "(II)Z"⟩, 23), (⟨"PriorityKernelModel", "block", "(III)V"⟩, 23), (⟨"PriorityKernelModel", "give", "(I)V"⟩, 23), (⟨"PriorityKernelModel", "firstWaiter", "(I)I"⟩, 23), (⟨"PriorityKernelModel", "retake", "(II)V"⟩, 23), (⟨"PriorityKernelModel", "comeIn", "(III)V"⟩, 23), (⟨"PriorityKernelModel", "deadlineComes", "(I)V"⟩, 23)]
theorem lw_r2 : ∀ q ∈ lw_privs_2, lw_okq q := List.forall_mem_cons.mpr ⟨lw_p16, List.forall_mem_cons.mpr ⟨lw_p17, List.forall_mem_cons.mpr ⟨lw_p18, List.forall_mem_cons.mpr ⟨lw_p19, List.forall_mem_cons.mpr ⟨lw_p20, List.forall_mem_cons.mpr ⟨lw_p21, List.forall_mem_cons.mpr ⟨lw_p22, List.forall_mem_cons.mpr ⟨lw_p23, List.forall_mem_cons.mpr ⟨lw_p24, List.forall_mem_cons.mpr ⟨lw_p25, List.forall_mem_cons.mpr ⟨lw_p26, List.forall_mem_cons.mpr ⟨lw_p27, List.forall_mem_cons.mpr ⟨lw_p28, List.forall_mem_cons.mpr ⟨lw_p29, List.forall_mem_cons.mpr ⟨lw_p30, fun _ h => absurd h List.not_mem_nil⟩⟩⟩⟩⟩⟩⟩⟩⟩⟩⟩⟩⟩⟩⟩
def lw_privs : List (MethodName × Nat) := lw_privs_1 ++ (lw_privs_2)
def lw_tbl : List Cond := k2_sels lw_privs ++ tables_1
theorem lw_privs_ok : ∀ q ∈ lw_privs, lw_okq q := by
  show ∀ q ∈ lw_privs_1 ++ (lw_privs_2), lw_okq q
  exact List.forall_mem_append.mpr ⟨lw_r1, lw_r2⟩
end
section
/-! names of classes, fields, methods -/
def kn_T : List Cond := lw_tbl.filter goodWord
theorem kn_m {w : Cond} (h : w ∈ lw_tbl) (g : goodWord w = true) : w ∈ kn_T := List.mem_filter.mpr ⟨h, g⟩
def R_Q : String := "PriorityKernel$MessageQueue"
def T_Q : u_T := fun k => match k with
  | 0 => ("PriorityKernel$MessageQueue", "ranks", "[I", true)
  | 1 => ("PriorityKernel$MessageQueue", "contents", "[I", true)
  | _ => ("PriorityKernel$MessageQueue", "size", "I", false)
def ty_Q : Nat → FieldType := fun k => match k with
  | 0 => .array .int
  | 1 => .array .int
  | _ => .int
theorem nm_Q : ∀ a, a < 3 → ∀ b, b < 3 → a ≠ b → (T_Q a).2.1 ≠ (T_Q b).2.1 := by decide +kernel
theorem ty_Q_ok : ∀ k, k < 3 → parseFieldDescriptor (T_Q k).2.2.1 = some (ty_Q k) := by decide +kernel
theorem ux_Q : ∀ w ∈ u_ws R_Q T_Q 3, w ∈ lw_tbl := by decide +kernel
theorem uw_Q {c0 : Cond} : ∀ w ∈ u_ws R_Q T_Q 3, w ∈ c0 :: kn_T := fun w h => List.mem_cons_of_mem _ (kn_m (ux_Q w h) ((by decide +kernel : ∀ w ∈ u_ws R_Q T_Q 3, goodWord w = true) w h))
def R_T : String := "PriorityKernel$Task"
def T_T : u_T := fun k => match k with
  | 0 => ("PriorityKernel$Task", "number", "I", true)
  | 1 => ("PriorityKernel$Task", "state", "I", false)
  | 2 => ("PriorityKernel$Task", "base", "I", false)
  | 3 => ("PriorityKernel$Task", "effective", "I", false)
  | 4 => ("PriorityKernel$Task", "sliced", "Z", false)
  | 5 => ("PriorityKernel$Task", "used", "I", false)
  | 6 => ("PriorityKernel$Task", "result", "I", false)
  | 7 => ("PriorityKernel$Task", "since", "J", false)
  | 8 => ("PriorityKernel$Task", "waitsOn", "I", false)
  | 9 => ("PriorityKernel$Task", "deadline", "J", false)
  | 10 => ("PriorityKernel$Task", "mutexInMind", "I", false)
  | 11 => ("PriorityKernel$Task", "resultWhenOwning", "I", false)
  | 12 => ("PriorityKernel$Task", "rank", "I", false)
  | _ => ("PriorityKernel$Task", "value", "I", false)
def ty_T : Nat → FieldType := fun k => match k with
  | 0 => .int
  | 1 => .int
  | 2 => .int
  | 3 => .int
  | 4 => .boolean
  | 5 => .int
  | 6 => .int
  | 7 => .long
  | 8 => .int
  | 9 => .long
  | 10 => .int
  | 11 => .int
  | 12 => .int
  | _ => .int
theorem nm_T : ∀ a, a < 14 → ∀ b, b < 14 → a ≠ b → (T_T a).2.1 ≠ (T_T b).2.1 := by decide +kernel
theorem ty_T_ok : ∀ k, k < 14 → parseFieldDescriptor (T_T k).2.2.1 = some (ty_T k) := by decide +kernel
theorem ux_T : ∀ w ∈ u_ws R_T T_T 14, w ∈ lw_tbl := by decide +kernel
theorem uw_T {c0 : Cond} : ∀ w ∈ u_ws R_T T_T 14, w ∈ c0 :: kn_T := fun w h => List.mem_cons_of_mem _ (kn_m (ux_T w h) ((by decide +kernel : ∀ w ∈ u_ws R_T T_T 14, goodWord w = true) w h))
def R_X : String := "PriorityKernel"
def T_X : u_T := fun k => match k with
  | 0 => ("PriorityKernel", "slice", "I", true)
  | 1 => ("PriorityKernel", "ceiling", "I", true)
  | 2 => ("PriorityKernel", "tasks", "[LPriorityKernel$Task;", true)
  | 3 => ("PriorityKernel", "owners", "[I", true)
  | 4 => ("PriorityKernel", "values", "[I", true)
  | 5 => ("PriorityKernel", "queues", "[LPriorityKernel$MessageQueue;", true)
  | 6 => ("PriorityKernel", "time", "I", false)
  | _ => ("PriorityKernel", "lastMoment", "J", false)
def ty_X : Nat → FieldType := fun k => match k with
  | 0 => .int
  | 1 => .int
  | 2 => .array (.object "PriorityKernel$Task")
  | 3 => .array .int
  | 4 => .array .int
  | 5 => .array (.object "PriorityKernel$MessageQueue")
  | 6 => .int
  | _ => .long
theorem nm_X : ∀ a, a < 8 → ∀ b, b < 8 → a ≠ b → (T_X a).2.1 ≠ (T_X b).2.1 := by decide +kernel
theorem ty_X_ok : ∀ k, k < 8 → parseFieldDescriptor (T_X k).2.2.1 = some (ty_X k) := by decide +kernel
theorem ux_X : ∀ w ∈ u_ws R_X T_X 8, w ∈ lw_tbl := by decide +kernel
theorem uw_X {c0 : Cond} : ∀ w ∈ u_ws R_X T_X 8, w ∈ c0 :: kn_T := fun w h => List.mem_cons_of_mem _ (kn_m (ux_X w h) ((by decide +kernel : ∀ w ∈ u_ws R_X T_X 8, goodWord w = true) w h))
def R_M : String := "PriorityKernelModel"
def T_M : u_T := fun k => match k with
  | 0 => ("PriorityKernelModel", "slice", "I", true)
  | 1 => ("PriorityKernelModel", "ceiling", "I", true)
  | 2 => ("PriorityKernelModel", "time", "I", false)
  | 3 => ("PriorityKernelModel", "stamps", "I", false)
  | 4 => ("PriorityKernelModel", "state", "[I", true)
  | 5 => ("PriorityKernelModel", "base", "[I", true)
  | 6 => ("PriorityKernelModel", "stamp", "[I", true)
  | 7 => ("PriorityKernelModel", "used", "[I", true)
  | 8 => ("PriorityKernelModel", "on", "[I", true)
  | 9 => ("PriorityKernelModel", "since", "[I", true)
  | 10 => ("PriorityKernelModel", "deadline", "[I", true)
  | 11 => ("PriorityKernelModel", "result", "[I", true)
  | 12 => ("PriorityKernelModel", "mind", "[I", true)
  | 13 => ("PriorityKernelModel", "rank", "[I", true)
  | 14 => ("PriorityKernelModel", "value", "[I", true)
  | 15 => ("PriorityKernelModel", "sliced", "[Z", true)
  | 16 => ("PriorityKernelModel", "retakes", "[Z", true)
  | 17 => ("PriorityKernelModel", "owns", "[I", true)
  | 18 => ("PriorityKernelModel", "count", "[I", true)
  | 19 => ("PriorityKernelModel", "messages", "[I", true)
  | 20 => ("PriorityKernelModel", "messageRank", "[I", true)
  | 21 => ("PriorityKernelModel", "messageValue", "[I", true)
  | _ => ("PriorityKernelModel", "urgent", "[I", true)
def ty_M : Nat → FieldType := fun k => match k with
  | 0 => .int
  | 1 => .int
  | 2 => .int
  | 3 => .int
  | 4 => .array .int
  | 5 => .array .int
  | 6 => .array .int
  | 7 => .array .int
  | 8 => .array .int
  | 9 => .array .int
  | 10 => .array .int
  | 11 => .array .int
  | 12 => .array .int
  | 13 => .array .int
  | 14 => .array .int
  | 15 => .array .boolean
  | 16 => .array .boolean
  | 17 => .array .int
  | 18 => .array .int
  | 19 => .array .int
  | 20 => .array .int
  | 21 => .array .int
  | _ => .array .int
theorem nm_M : ∀ a, a < 23 → ∀ b, b < 23 → a ≠ b → (T_M a).2.1 ≠ (T_M b).2.1 := by decide +kernel
theorem ty_M_ok : ∀ k, k < 23 → parseFieldDescriptor (T_M k).2.2.1 = some (ty_M k) := by decide +kernel
theorem ux_M : ∀ w ∈ u_ws R_M T_M 23, w ∈ lw_tbl := by decide +kernel
theorem uw_M {c0 : Cond} : ∀ w ∈ u_ws R_M T_M 23, w ∈ c0 :: kn_T := fun w h => List.mem_cons_of_mem _ (kn_m (ux_M w h) ((by decide +kernel : ∀ w ∈ u_ws R_M T_M 23, goodWord w = true) w h))
abbrev vwCl : List vw_C := [(R_Q, T_Q, 3), (R_T, T_T, 14), (R_X, T_X, 8), (R_M, T_M, 23)]
abbrev b_X_init : ByteArray := prog_1_method_1_code
def y_X_init : MethodName := ⟨R_X, "<init>", "(II)V"⟩
def ws_X_init : List Cond := .code y_X_init b_X_init 4 none :: kn_T
abbrev b_T_init : ByteArray := prog_3_method_1_code
def y_T_init : MethodName := ⟨R_T, "<init>", "(I)V"⟩
def ws_T_init : List Cond := .code y_T_init b_T_init 2 none :: kn_T
abbrev b_Q_init : ByteArray := prog_2_method_1_code
def y_Q_init : MethodName := ⟨R_Q, "<init>", "()V"⟩
def ws_Q_init : List Cond := .code y_Q_init b_Q_init 1 none :: kn_T
abbrev b_X_spawn : ByteArray := prog_1_method_2_code
def y_X_spawn : MethodName := ⟨R_X, "spawn", "(IZ)I"⟩
def ws_X_spawn : List Cond := .code y_X_spawn b_X_spawn 4 (some .int) :: kn_T
abbrev b_X_isPriority : ByteArray := prog_1_method_22_code
def y_X_isPriority : MethodName := ⟨R_X, "isPriority", "(I)Z"⟩
def ws_X_isPriority : List Cond := .code y_X_isPriority b_X_isPriority 1 (some .boolean) :: kn_T
abbrev b_X_leastFree : ByteArray := prog_1_method_25_code
def y_X_leastFree : MethodName := ⟨R_X, "leastFree", "()LPriorityKernel$Task;"⟩
def ws_X_leastFree : List Cond := .code y_X_leastFree b_X_leastFree 5 (some (.object "PriorityKernel$Task")) :: kn_T
abbrev b_X_makeReady : ByteArray := prog_1_method_35_code
def y_X_makeReady : MethodName := ⟨R_X, "makeReady", "(LPriorityKernel$Task;I)V"⟩
def ws_X_makeReady : List Cond := .code y_X_makeReady b_X_makeReady 3 none :: kn_T
abbrev b_X_priority : ByteArray := prog_1_method_3_code
def y_X_priority : MethodName := ⟨R_X, "priority", "(II)I"⟩
def ws_X_priority : List Cond := .code y_X_priority b_X_priority 4 (some .int) :: kn_T
abbrev b_X_isBelow : ByteArray := prog_1_method_21_code
def y_X_isBelow : MethodName := ⟨R_X, "isBelow", "(II)Z"⟩
def ws_X_isBelow : List Cond := .code y_X_isBelow b_X_isBelow 2 (some .boolean) :: kn_T
abbrev b_X_pass : ByteArray := prog_1_method_4_code
def y_X_pass : MethodName := ⟨R_X, "pass", "()I"⟩
def ws_X_pass : List Cond := .code y_X_pass b_X_pass 2 (some .int) :: kn_T
abbrev b_X_runner : ByteArray := prog_1_method_28_code
def y_X_runner : MethodName := ⟨R_X, "runner", "()LPriorityKernel$Task;"⟩
def ws_X_runner : List Cond := .code y_X_runner b_X_runner 1 (some (.object "PriorityKernel$Task")) :: kn_T
abbrev b_X_foremost : ByteArray := prog_1_method_30_code
def y_X_foremost : MethodName := ⟨R_X, "foremost", "(II)LPriorityKernel$Task;"⟩
def ws_X_foremost : List Cond := .code y_X_foremost b_X_foremost 8 (some (.object "PriorityKernel$Task")) :: kn_T
abbrev b_X_workOutEffective : ByteArray := prog_1_method_31_code
def y_X_workOutEffective : MethodName := ⟨R_X, "workOutEffective", "()V"⟩
def ws_X_workOutEffective : List Cond := .code y_X_workOutEffective b_X_workOutEffective 5 none :: kn_T
abbrev b_X_inheritOnce : ByteArray := prog_1_method_32_code
def y_X_inheritOnce : MethodName := ⟨R_X, "inheritOnce", "()Z"⟩
def ws_X_inheritOnce : List Cond := .code y_X_inheritOnce b_X_inheritOnce 7 (some .boolean) :: kn_T
abbrev b_X_heirOf : ByteArray := prog_1_method_33_code
def y_X_heirOf : MethodName := ⟨R_X, "heirOf", "(LPriorityKernel$Task;)I"⟩
def ws_X_heirOf : List Cond := .code y_X_heirOf b_X_heirOf 3 (some .int) :: kn_T
abbrev b_T_isAheadOf : ByteArray := prog_3_method_2_code
def y_T_isAheadOf : MethodName := ⟨R_T, "isAheadOf", "(LPriorityKernel$Task;)Z"⟩
def ws_T_isAheadOf : List Cond := .code y_T_isAheadOf b_T_isAheadOf 2 (some .boolean) :: kn_T
abbrev b_X_startTurn : ByteArray := prog_1_method_34_code
def y_X_startTurn : MethodName := ⟨R_X, "startTurn", "(LPriorityKernel$Task;)V"⟩
def ws_X_startTurn : List Cond := .code y_X_startTurn b_X_startTurn 2 none :: kn_T
abbrev b_X_lock : ByteArray := prog_1_method_5_code
def y_X_lock : MethodName := ⟨R_X, "lock", "(I)I"⟩
def ws_X_lock : List Cond := .code y_X_lock b_X_lock 3 (some .int) :: kn_T
abbrev b_X_take : ByteArray := prog_1_method_37_code
def y_X_take : MethodName := ⟨R_X, "take", "(LPriorityKernel$Task;I)V"⟩
def ws_X_take : List Cond := .code y_X_take b_X_take 3 none :: kn_T
abbrev b_X_makeOwner : ByteArray := prog_1_method_39_code
def y_X_makeOwner : MethodName := ⟨R_X, "makeOwner", "(LPriorityKernel$Task;I)V"⟩
def ws_X_makeOwner : List Cond := .code y_X_makeOwner b_X_makeOwner 3 none :: kn_T
abbrev b_X_block : ByteArray := prog_1_method_36_code
def y_X_block : MethodName := ⟨R_X, "block", "(LPriorityKernel$Task;IJ)V"⟩
def ws_X_block : List Cond := .code y_X_block b_X_block 5 none :: kn_T
abbrev b_X_unlock : ByteArray := prog_1_method_6_code
def y_X_unlock : MethodName := ⟨R_X, "unlock", "(I)I"⟩
def ws_X_unlock : List Cond := .code y_X_unlock b_X_unlock 3 (some .int) :: kn_T
abbrev b_X_give : ByteArray := prog_1_method_38_code
def y_X_give : MethodName := ⟨R_X, "give", "(I)V"⟩
def ws_X_give : List Cond := .code y_X_give b_X_give 3 none :: kn_T
abbrev b_X_firstWaiter : ByteArray := prog_1_method_29_code
def y_X_firstWaiter : MethodName := ⟨R_X, "firstWaiter", "(I)LPriorityKernel$Task;"⟩
def ws_X_firstWaiter : List Cond := .code y_X_firstWaiter b_X_firstWaiter 2 (some (.object "PriorityKernel$Task")) :: kn_T
abbrev b_X_await : ByteArray := prog_1_method_7_code
def y_X_await : MethodName := ⟨R_X, "await", "(III)I"⟩
def ws_X_await : List Cond := .code y_X_await b_X_await 5 (some .int) :: kn_T
abbrev b_X_isTimeout : ByteArray := prog_1_method_23_code
def y_X_isTimeout : MethodName := ⟨R_X, "isTimeout", "(I)Z"⟩
def ws_X_isTimeout : List Cond := .code y_X_isTimeout b_X_isTimeout 1 (some .boolean) :: kn_T
abbrev b_X_deadlineAfter : ByteArray := prog_1_method_24_code
def y_X_deadlineAfter : MethodName := ⟨R_X, "deadlineAfter", "(I)J"⟩
def ws_X_deadlineAfter : List Cond := .code y_X_deadlineAfter b_X_deadlineAfter 2 (some .long) :: kn_T
abbrev b_X_signal : ByteArray := prog_1_method_8_code
def y_X_signal : MethodName := ⟨R_X, "signal", "(IZ)I"⟩
def ws_X_signal : List Cond := .code y_X_signal b_X_signal 7 (some .int) :: kn_T
abbrev b_X_endAwait : ByteArray := prog_1_method_40_code
def y_X_endAwait : MethodName := ⟨R_X, "endAwait", "(LPriorityKernel$Task;I)V"⟩
def ws_X_endAwait : List Cond := .code y_X_endAwait b_X_endAwait 3 none :: kn_T
abbrev b_X_down : ByteArray := prog_1_method_9_code
def y_X_down : MethodName := ⟨R_X, "down", "(II)I"⟩
def ws_X_down : List Cond := .code y_X_down b_X_down 4 (some .int) :: kn_T
abbrev b_X_post : ByteArray := prog_1_method_10_code
def y_X_post : MethodName := ⟨R_X, "post", "(I)I"⟩
def ws_X_post : List Cond := .code y_X_post b_X_post 3 (some .int) :: kn_T
abbrev b_X_send : ByteArray := prog_1_method_11_code
def y_X_send : MethodName := ⟨R_X, "send", "(III)I"⟩
def ws_X_send : List Cond := .code y_X_send b_X_send 5 (some .int) :: kn_T
abbrev b_Q_isFull : ByteArray := prog_2_method_3_code
def y_Q_isFull : MethodName := ⟨R_Q, "isFull", "()Z"⟩
def ws_Q_isFull : List Cond := .code y_Q_isFull b_Q_isFull 1 (some .boolean) :: kn_T
abbrev b_X_arrive : ByteArray := prog_1_method_41_code
def y_X_arrive : MethodName := ⟨R_X, "arrive", "(III)V"⟩
def ws_X_arrive : List Cond := .code y_X_arrive b_X_arrive 5 none :: kn_T
abbrev b_Q_insert : ByteArray := prog_2_method_4_code
def y_Q_insert : MethodName := ⟨R_Q, "insert", "(II)V"⟩
def ws_Q_insert : List Cond := .code y_Q_insert b_Q_insert 4 none :: kn_T
abbrev b_X_receive : ByteArray := prog_1_method_12_code
def y_X_receive : MethodName := ⟨R_X, "receive", "(I)I"⟩
def ws_X_receive : List Cond := .code y_X_receive b_X_receive 4 (some .int) :: kn_T
abbrev b_Q_isEmpty : ByteArray := prog_2_method_2_code
def y_Q_isEmpty : MethodName := ⟨R_Q, "isEmpty", "()Z"⟩
def ws_Q_isEmpty : List Cond := .code y_Q_isEmpty b_Q_isEmpty 1 (some .boolean) :: kn_T
abbrev b_Q_removeFirst : ByteArray := prog_2_method_5_code
def y_Q_removeFirst : MethodName := ⟨R_Q, "removeFirst", "()I"⟩
def ws_Q_removeFirst : List Cond := .code y_Q_removeFirst b_Q_removeFirst 3 (some .int) :: kn_T
abbrev b_X_sleep : ByteArray := prog_1_method_13_code
def y_X_sleep : MethodName := ⟨R_X, "sleep", "(I)I"⟩
def ws_X_sleep : List Cond := .code y_X_sleep b_X_sleep 3 (some .int) :: kn_T
abbrev b_X_join : ByteArray := prog_1_method_14_code
def y_X_join : MethodName := ⟨R_X, "join", "(I)I"⟩
def ws_X_join : List Cond := .code y_X_join b_X_join 4 (some .int) :: kn_T
abbrev b_X_exit : ByteArray := prog_1_method_15_code
def y_X_exit : MethodName := ⟨R_X, "exit", "(I)I"⟩
def ws_X_exit : List Cond := .code y_X_exit b_X_exit 4 (some .int) :: kn_T
abbrev b_X_ownsAny : ByteArray := prog_1_method_27_code
def y_X_ownsAny : MethodName := ⟨R_X, "ownsAny", "(LPriorityKernel$Task;)Z"⟩
def ws_X_ownsAny : List Cond := .code y_X_ownsAny b_X_ownsAny 6 (some .boolean) :: kn_T
abbrev b_X_tick : ByteArray := prog_1_method_16_code
def y_X_tick : MethodName := ⟨R_X, "tick", "(I)I"⟩
def ws_X_tick : List Cond := .code y_X_tick b_X_tick 3 (some .int) :: kn_T
abbrev b_X_tickOnce : ByteArray := prog_1_method_42_code
def y_X_tickOnce : MethodName := ⟨R_X, "tickOnce", "()V"⟩
def ws_X_tickOnce : List Cond := .code y_X_tickOnce b_X_tickOnce 6 none :: kn_T
abbrev b_X_useTick : ByteArray := prog_1_method_43_code
def y_X_useTick : MethodName := ⟨R_X, "useTick", "(LPriorityKernel$Task;)V"⟩
def ws_X_useTick : List Cond := .code y_X_useTick b_X_useTick 2 none :: kn_T
abbrev b_X_endWait : ByteArray := prog_1_method_44_code
def y_X_endWait : MethodName := ⟨R_X, "endWait", "(LPriorityKernel$Task;)V"⟩
def ws_X_endWait : List Cond := .code y_X_endWait b_X_endWait 2 none :: kn_T
abbrev b_X_running : ByteArray := prog_1_method_17_code
def y_X_running : MethodName := ⟨R_X, "running", "()I"⟩
def ws_X_running : List Cond := .code y_X_running b_X_running 2 (some .int) :: kn_T
abbrev b_X_tell : ByteArray := prog_1_method_18_code
def y_X_tell : MethodName := ⟨R_X, "tell", "(II)J"⟩
def ws_X_tell : List Cond := .code y_X_tell b_X_tell 4 (some .long) :: kn_T
abbrev b_X_owner : ByteArray := prog_1_method_19_code
def y_X_owner : MethodName := ⟨R_X, "owner", "(I)I"⟩
def ws_X_owner : List Cond := .code y_X_owner b_X_owner 2 (some .int) :: kn_T
abbrev b_X_count : ByteArray := prog_1_method_20_code
def y_X_count : MethodName := ⟨R_X, "count", "(I)I"⟩
def ws_X_count : List Cond := .code y_X_count b_X_count 2 (some .int) :: kn_T
abbrev b_X_readyThreads : ByteArray := prog_1_method_26_code
def y_X_readyThreads : MethodName := ⟨R_X, "readyThreads", "()I"⟩
def ws_X_readyThreads : List Cond := .code y_X_readyThreads b_X_readyThreads 6 (some .int) :: kn_T
abbrev b_L_cell : ByteArray := method_2_code
def y_L_cell : MethodName := ⟨"PriorityKernelLaw", "cell", "([II)I"⟩
def ws_L_cell : List Cond := .code y_L_cell b_L_cell 2 (some .int) :: kn_T
abbrev b_M_init : ByteArray := prog_5_method_1_code
def y_M_init : MethodName := ⟨R_M, "<init>", "(II)V"⟩
def ws_M_init : List Cond := .code y_M_init b_M_init 4 none :: kn_T
abbrev b_M_running : ByteArray := prog_5_method_7_code
def y_M_running : MethodName := ⟨R_M, "running", "()I"⟩
def ws_M_running : List Cond := .code y_M_running b_M_running 3 (some .int) :: kn_T
abbrev b_M_weigh : ByteArray := prog_5_method_6_code
def y_M_weigh : MethodName := ⟨R_M, "weigh", "()V"⟩
def ws_M_weigh : List Cond := .code y_M_weigh b_M_weigh 4 none :: kn_T
abbrev b_M_spawn : ByteArray := prog_5_method_11_code
def y_M_spawn : MethodName := ⟨R_M, "spawn", "(IZ)I"⟩
def ws_M_spawn : List Cond := .code y_M_spawn b_M_spawn 4 (some .int) :: kn_T
abbrev b_M_ready : ByteArray := prog_5_method_4_code
def y_M_ready : MethodName := ⟨R_M, "ready", "(I)V"⟩
def ws_M_ready : List Cond := .code y_M_ready b_M_ready 2 none :: kn_T
abbrev b_M_newStamp : ByteArray := prog_5_method_3_code
def y_M_newStamp : MethodName := ⟨R_M, "newStamp", "()I"⟩
def ws_M_newStamp : List Cond := .code y_M_newStamp b_M_newStamp 1 (some .int) :: kn_T
abbrev b_M_priority : ByteArray := prog_5_method_12_code
def y_M_priority : MethodName := ⟨R_M, "priority", "(II)I"⟩
def ws_M_priority : List Cond := .code y_M_priority b_M_priority 3 (some .int) :: kn_T
abbrev b_M_out : ByteArray := prog_5_method_2_code
def y_M_out : MethodName := ⟨R_M, "out", "(II)Z"⟩
def ws_M_out : List Cond := .code y_M_out b_M_out 3 (some .boolean) :: kn_T
abbrev b_M_pass : ByteArray := prog_5_method_13_code
def y_M_pass : MethodName := ⟨R_M, "pass", "()I"⟩
def ws_M_pass : List Cond := .code y_M_pass b_M_pass 2 (some .int) :: kn_T
abbrev b_M_lock : ByteArray := prog_5_method_14_code
def y_M_lock : MethodName := ⟨R_M, "lock", "(I)I"⟩
def ws_M_lock : List Cond := .code y_M_lock b_M_lock 3 (some .int) :: kn_T
abbrev b_M_block : ByteArray := prog_5_method_5_code
def y_M_block : MethodName := ⟨R_M, "block", "(III)V"⟩
def ws_M_block : List Cond := .code y_M_block b_M_block 4 none :: kn_T
abbrev b_M_unlock : ByteArray := prog_5_method_15_code
def y_M_unlock : MethodName := ⟨R_M, "unlock", "(I)I"⟩
def ws_M_unlock : List Cond := .code y_M_unlock b_M_unlock 3 (some .int) :: kn_T
abbrev b_M_give : ByteArray := prog_5_method_9_code
def y_M_give : MethodName := ⟨R_M, "give", "(I)V"⟩
def ws_M_give : List Cond := .code y_M_give b_M_give 3 none :: kn_T
abbrev b_M_firstWaiter : ByteArray := prog_5_method_8_code
def y_M_firstWaiter : MethodName := ⟨R_M, "firstWaiter", "(I)I"⟩
def ws_M_firstWaiter : List Cond := .code y_M_firstWaiter b_M_firstWaiter 4 (some .int) :: kn_T
abbrev b_M_await : ByteArray := prog_5_method_16_code
def y_M_await : MethodName := ⟨R_M, "await", "(III)I"⟩
def ws_M_await : List Cond := .code y_M_await b_M_await 5 (some .int) :: kn_T
abbrev b_M_signal : ByteArray := prog_5_method_17_code
def y_M_signal : MethodName := ⟨R_M, "signal", "(IZ)I"⟩
def ws_M_signal : List Cond := .code y_M_signal b_M_signal 6 (some .int) :: kn_T
abbrev b_M_retake : ByteArray := prog_5_method_10_code
def y_M_retake : MethodName := ⟨R_M, "retake", "(II)V"⟩
def ws_M_retake : List Cond := .code y_M_retake b_M_retake 4 none :: kn_T
abbrev b_M_down : ByteArray := prog_5_method_18_code
def y_M_down : MethodName := ⟨R_M, "down", "(II)I"⟩
def ws_M_down : List Cond := .code y_M_down b_M_down 4 (some .int) :: kn_T
abbrev b_M_post : ByteArray := prog_5_method_19_code
def y_M_post : MethodName := ⟨R_M, "post", "(I)I"⟩
def ws_M_post : List Cond := .code y_M_post b_M_post 3 (some .int) :: kn_T
abbrev b_M_send : ByteArray := prog_5_method_21_code
def y_M_send : MethodName := ⟨R_M, "send", "(III)I"⟩
def ws_M_send : List Cond := .code y_M_send b_M_send 6 (some .int) :: kn_T
abbrev b_M_comeIn : ByteArray := prog_5_method_20_code
def y_M_comeIn : MethodName := ⟨R_M, "comeIn", "(III)V"⟩
def ws_M_comeIn : List Cond := .code y_M_comeIn b_M_comeIn 5 none :: kn_T
abbrev b_M_receive : ByteArray := prog_5_method_22_code
def y_M_receive : MethodName := ⟨R_M, "receive", "(I)I"⟩
def ws_M_receive : List Cond := .code y_M_receive b_M_receive 4 (some .int) :: kn_T
abbrev b_M_sleep : ByteArray := prog_5_method_23_code
def y_M_sleep : MethodName := ⟨R_M, "sleep", "(I)I"⟩
def ws_M_sleep : List Cond := .code y_M_sleep b_M_sleep 3 (some .int) :: kn_T
abbrev b_M_join : ByteArray := prog_5_method_24_code
def y_M_join : MethodName := ⟨R_M, "join", "(I)I"⟩
def ws_M_join : List Cond := .code y_M_join b_M_join 3 (some .int) :: kn_T
abbrev b_M_exit : ByteArray := prog_5_method_25_code
def y_M_exit : MethodName := ⟨R_M, "exit", "(I)I"⟩
def ws_M_exit : List Cond := .code y_M_exit b_M_exit 4 (some .int) :: kn_T
abbrev b_M_tick : ByteArray := prog_5_method_27_code
def y_M_tick : MethodName := ⟨R_M, "tick", "(I)I"⟩
def ws_M_tick : List Cond := .code y_M_tick b_M_tick 5 (some .int) :: kn_T
abbrev b_M_deadlineComes : ByteArray := prog_5_method_26_code
def y_M_deadlineComes : MethodName := ⟨R_M, "deadlineComes", "(I)V"⟩
def ws_M_deadlineComes : List Cond := .code y_M_deadlineComes b_M_deadlineComes 2 none :: kn_T
abbrev b_M_tell : ByteArray := prog_5_method_28_code
def y_M_tell : MethodName := ⟨R_M, "tell", "(II)J"⟩
def ws_M_tell : List Cond := .code y_M_tell b_M_tell 3 (some .long) :: kn_T
abbrev b_M_owner : ByteArray := prog_5_method_29_code
def y_M_owner : MethodName := ⟨R_M, "owner", "(I)I"⟩
def ws_M_owner : List Cond := .code y_M_owner b_M_owner 2 (some .int) :: kn_T
abbrev b_M_count : ByteArray := prog_5_method_30_code
def y_M_count : MethodName := ⟨R_M, "count", "(I)I"⟩
def ws_M_count : List Cond := .code y_M_count b_M_count 4 (some .int) :: kn_T
theorem kn_1 {w : Cond} (h : w ∈ kn_T) : w ∈ kn_T ∧ ((w.onTables && w.keeps) = true ∨ ∃ ty, w = .arrayClass ty) := ⟨h, good_of_word (List.mem_filter.mp h).2⟩
theorem kn_I {c0 c1 : Cond} (h1 : c1 ∈ kn_T) : GoodIn (c0 :: kn_T) (c1 :: kn_T) := fun w hw => by
  rcases List.mem_cons.mp hw with rfl | h
  · exact ⟨List.mem_cons_of_mem _ h1, (kn_1 h1).2⟩
  · exact ⟨List.mem_cons_of_mem _ h, (kn_1 h).2⟩
theorem kn_V {c0 c1 : Cond} {own C : String} {idx : Nat} {y : MethodName} (h1 : Cond.methodLink own idx y ∈ kn_T) (h2 : Cond.instanceMethod y ∈ kn_T) (h3 : Cond.selects C y y ∈ kn_T) (h4 : Cond.initialized C ∈ kn_T) (h5 : c1 ∈ kn_T) : GoodIn (c0 :: kn_T) (wsV own idx C y (c1 :: kn_T)) := fun w hw => by
  have g : ∀ v ∈ kn_T, v ∈ c0 :: kn_T ∧ ((v.onTables && v.keeps) = true ∨ ∃ ty, v = .arrayClass ty) := fun v hv => ⟨List.mem_cons_of_mem _ hv, (kn_1 hv).2⟩
  rcases List.mem_append.mp hw with h | h
  · simp only [List.mem_cons, List.not_mem_nil, or_false] at h
    rcases h with rfl | rfl | rfl | rfl
    · exact g _ h1
    · exact g _ h2
    · exact g _ h3
    · exact g _ h4
  · rcases List.mem_cons.mp h with rfl | h
    · exact g _ h5
    · exact g _ h
theorem kn_S {c0 c1 : Cond} {own : String} {idx : Nat} {y : MethodName} (h1 : Cond.methodLink own idx y ∈ kn_T) (h2 : Cond.static y ∈ kn_T) (h4 : Cond.initialized own ∈ kn_T) (h5 : c1 ∈ kn_T) : GoodIn (c0 :: kn_T) (wsS own idx y (c1 :: kn_T)) := fun w hw => by
  have g : ∀ v ∈ kn_T, v ∈ c0 :: kn_T ∧ ((v.onTables && v.keeps) = true ∨ ∃ ty, v = .arrayClass ty) := fun v hv => ⟨List.mem_cons_of_mem _ hv, (kn_1 hv).2⟩
  rcases List.mem_append.mp hw with h | h
  · simp only [List.mem_cons, List.not_mem_nil, or_false] at h
    rcases h with rfl | rfl | rfl
    · exact g _ h1
    · exact g _ h2
    · exact g _ h4
  · rcases List.mem_cons.mp h with rfl | h
    · exact g _ h5
    · exact g _ h
end
section
/-! words of the tables, by their places -/
theorem wp_0 : Cond.selects R_X y_X_leastFree y_X_leastFree ∈ kn_T := kn_m (List.mem_append_left _ (List.mem_of_getElem? (i := 0) rfl)) rfl
theorem wp_1 : Cond.selects R_X y_X_makeReady y_X_makeReady ∈ kn_T := kn_m (List.mem_append_left _ (List.mem_of_getElem? (i := 1) rfl)) rfl
theorem wp_2 : Cond.selects R_X y_X_runner y_X_runner ∈ kn_T := kn_m (List.mem_append_left _ (List.mem_of_getElem? (i := 2) rfl)) rfl
theorem wp_3 : Cond.selects R_X y_X_foremost y_X_foremost ∈ kn_T := kn_m (List.mem_append_left _ (List.mem_of_getElem? (i := 3) rfl)) rfl
theorem wp_4 : Cond.selects R_X y_X_workOutEffective y_X_workOutEffective ∈ kn_T := kn_m (List.mem_append_left _ (List.mem_of_getElem? (i := 4) rfl)) rfl
theorem wp_5 : Cond.selects R_X y_X_inheritOnce y_X_inheritOnce ∈ kn_T := kn_m (List.mem_append_left _ (List.mem_of_getElem? (i := 5) rfl)) rfl
theorem wp_6 : Cond.selects R_X y_X_heirOf y_X_heirOf ∈ kn_T := kn_m (List.mem_append_left _ (List.mem_of_getElem? (i := 6) rfl)) rfl
theorem wp_7 : Cond.selects R_X y_X_startTurn y_X_startTurn ∈ kn_T := kn_m (List.mem_append_left _ (List.mem_of_getElem? (i := 7) rfl)) rfl
theorem wp_8 : Cond.selects R_X y_X_take y_X_take ∈ kn_T := kn_m (List.mem_append_left _ (List.mem_of_getElem? (i := 8) rfl)) rfl
theorem wp_9 : Cond.selects R_X y_X_makeOwner y_X_makeOwner ∈ kn_T := kn_m (List.mem_append_left _ (List.mem_of_getElem? (i := 9) rfl)) rfl
theorem wp_10 : Cond.selects R_X y_X_block y_X_block ∈ kn_T := kn_m (List.mem_append_left _ (List.mem_of_getElem? (i := 10) rfl)) rfl
theorem wp_11 : Cond.selects R_X y_X_give y_X_give ∈ kn_T := kn_m (List.mem_append_left _ (List.mem_of_getElem? (i := 11) rfl)) rfl
theorem wp_12 : Cond.selects R_X y_X_firstWaiter y_X_firstWaiter ∈ kn_T := kn_m (List.mem_append_left _ (List.mem_of_getElem? (i := 12) rfl)) rfl
theorem wp_13 : Cond.selects R_X y_X_deadlineAfter y_X_deadlineAfter ∈ kn_T := kn_m (List.mem_append_left _ (List.mem_of_getElem? (i := 13) rfl)) rfl
theorem wp_14 : Cond.selects R_X y_X_endAwait y_X_endAwait ∈ kn_T := kn_m (List.mem_append_left _ (List.mem_of_getElem? (i := 14) rfl)) rfl
theorem wp_15 : Cond.selects R_X y_X_arrive y_X_arrive ∈ kn_T := kn_m (List.mem_append_left _ (List.mem_of_getElem? (i := 15) rfl)) rfl
theorem wp_16 : Cond.selects R_X y_X_ownsAny y_X_ownsAny ∈ kn_T := kn_m (List.mem_append_left _ (List.mem_of_getElem? (i := 16) rfl)) rfl
theorem wp_17 : Cond.selects R_X y_X_tickOnce y_X_tickOnce ∈ kn_T := kn_m (List.mem_append_left _ (List.mem_of_getElem? (i := 17) rfl)) rfl
theorem wp_18 : Cond.selects R_X y_X_useTick y_X_useTick ∈ kn_T := kn_m (List.mem_append_left _ (List.mem_of_getElem? (i := 18) rfl)) rfl
theorem wp_19 : Cond.selects R_X y_X_endWait y_X_endWait ∈ kn_T := kn_m (List.mem_append_left _ (List.mem_of_getElem? (i := 19) rfl)) rfl
theorem wp_20 : Cond.selects R_X y_X_readyThreads y_X_readyThreads ∈ kn_T := kn_m (List.mem_append_left _ (List.mem_of_getElem? (i := 20) rfl)) rfl
theorem wp_21 : Cond.selects R_M y_M_weigh y_M_weigh ∈ kn_T := kn_m (List.mem_append_left _ (List.mem_of_getElem? (i := 21) rfl)) rfl
theorem wp_22 : Cond.selects R_M y_M_ready y_M_ready ∈ kn_T := kn_m (List.mem_append_left _ (List.mem_of_getElem? (i := 22) rfl)) rfl
theorem wp_23 : Cond.selects R_M y_M_newStamp y_M_newStamp ∈ kn_T := kn_m (List.mem_append_left _ (List.mem_of_getElem? (i := 23) rfl)) rfl
theorem wp_24 : Cond.selects R_M y_M_out y_M_out ∈ kn_T := kn_m (List.mem_append_left _ (List.mem_of_getElem? (i := 24) rfl)) rfl
theorem wp_25 : Cond.selects R_M y_M_block y_M_block ∈ kn_T := kn_m (List.mem_append_left _ (List.mem_of_getElem? (i := 25) rfl)) rfl
theorem wp_26 : Cond.selects R_M y_M_give y_M_give ∈ kn_T := kn_m (List.mem_append_left _ (List.mem_of_getElem? (i := 26) rfl)) rfl
theorem wp_27 : Cond.selects R_M y_M_firstWaiter y_M_firstWaiter ∈ kn_T := kn_m (List.mem_append_left _ (List.mem_of_getElem? (i := 27) rfl)) rfl
theorem wp_28 : Cond.selects R_M y_M_retake y_M_retake ∈ kn_T := kn_m (List.mem_append_left _ (List.mem_of_getElem? (i := 28) rfl)) rfl
theorem wp_29 : Cond.selects R_M y_M_comeIn y_M_comeIn ∈ kn_T := kn_m (List.mem_append_left _ (List.mem_of_getElem? (i := 29) rfl)) rfl
theorem wp_30 : Cond.selects R_M y_M_deadlineComes y_M_deadlineComes ∈ kn_T := kn_m (List.mem_append_left _ (List.mem_of_getElem? (i := 30) rfl)) rfl
theorem wd_1 : (Cond.initialized "PriorityKernel") ∈ kn_T := kn_m (List.mem_append_right _ (List.mem_of_getElem? (i := 1) rfl)) rfl
theorem wd_2 : (Cond.initialized "java/lang/Math") ∈ kn_T := kn_m (List.mem_append_right _ (List.mem_of_getElem? (i := 2) rfl)) rfl
theorem wd_3 : (Cond.initialized "PriorityKernel$Task") ∈ kn_T := kn_m (List.mem_append_right _ (List.mem_of_getElem? (i := 3) rfl)) rfl
theorem wd_4 : (Cond.initialized "PriorityKernel$MessageQueue") ∈ kn_T := kn_m (List.mem_append_right _ (List.mem_of_getElem? (i := 4) rfl)) rfl
theorem wd_5 : (Cond.initialized "PriorityKernelModel") ∈ kn_T := kn_m (List.mem_append_right _ (List.mem_of_getElem? (i := 5) rfl)) rfl
theorem wd_11 : (Cond.methodLink "PriorityKernel" (1 : Nat) ({ cls := "java/lang/Object", name := "<init>", desc := "()V" } : MethodName)) ∈ kn_T := kn_m (List.mem_append_right _ (List.mem_of_getElem? (i := 11) rfl)) rfl
theorem wd_12 : (Cond.instanceMethod ({ cls := "java/lang/Object", name := "<init>", desc := "()V" } : MethodName)) ∈ kn_T := kn_m (List.mem_append_right _ (List.mem_of_getElem? (i := 12) rfl)) rfl
theorem wd_13 : (Cond.code ({ cls := "java/lang/Object", name := "<init>", desc := "()V" } : MethodName) object_method_1_code (1 : Nat) (Option.none : Option FieldType)) ∈ kn_T := kn_m (List.mem_append_right _ (List.mem_of_getElem? (i := 13) rfl)) rfl
theorem wd_14 : (Cond.classLink "PriorityKernel" (9 : Nat) "PriorityKernel$Task") ∈ kn_T := kn_m (List.mem_append_right _ (List.mem_of_getElem? (i := 14) rfl)) rfl
theorem wd_16 : (Cond.classLink "PriorityKernel" (22 : Nat) "PriorityKernel$MessageQueue") ∈ kn_T := kn_m (List.mem_append_right _ (List.mem_of_getElem? (i := 16) rfl)) rfl
theorem wd_18 : (Cond.methodLink "PriorityKernel" (36 : Nat) ({ cls := "java/lang/Math", name := "min", desc := "(II)I" } : MethodName)) ∈ kn_T := kn_m (List.mem_append_right _ (List.mem_of_getElem? (i := 18) rfl)) rfl
theorem wd_19 : (Cond.static ({ cls := "java/lang/Math", name := "min", desc := "(II)I" } : MethodName)) ∈ kn_T := kn_m (List.mem_append_right _ (List.mem_of_getElem? (i := 19) rfl)) rfl
theorem wd_20 : (Cond.code ({ cls := "java/lang/Math", name := "min", desc := "(II)I" } : MethodName) prog_6_method_69_code (2 : Nat) (Option.some FieldType.int)) ∈ kn_T := kn_m (List.mem_append_right _ (List.mem_of_getElem? (i := 20) rfl)) rfl
theorem wd_21 : (Cond.methodLink "PriorityKernel" (42 : Nat) ({ cls := "java/lang/Math", name := "max", desc := "(II)I" } : MethodName)) ∈ kn_T := kn_m (List.mem_append_right _ (List.mem_of_getElem? (i := 21) rfl)) rfl
theorem wd_22 : (Cond.static ({ cls := "java/lang/Math", name := "max", desc := "(II)I" } : MethodName)) ∈ kn_T := kn_m (List.mem_append_right _ (List.mem_of_getElem? (i := 22) rfl)) rfl
theorem wd_23 : (Cond.code ({ cls := "java/lang/Math", name := "max", desc := "(II)I" } : MethodName) prog_6_method_65_code (2 : Nat) (Option.some FieldType.int)) ∈ kn_T := kn_m (List.mem_append_right _ (List.mem_of_getElem? (i := 23) rfl)) rfl
theorem wd_24 : (Cond.instantiable "PriorityKernel$Task" (14 : Nat)) ∈ kn_T := kn_m (List.mem_append_right _ (List.mem_of_getElem? (i := 24) rfl)) rfl
theorem wd_25 : (Cond.methodLink "PriorityKernel" (51 : Nat) ({ cls := "PriorityKernel$Task", name := "<init>", desc := "(I)V" } : MethodName)) ∈ kn_T := kn_m (List.mem_append_right _ (List.mem_of_getElem? (i := 25) rfl)) rfl
theorem wd_26 : (Cond.instanceMethod ({ cls := "PriorityKernel$Task", name := "<init>", desc := "(I)V" } : MethodName)) ∈ kn_T := kn_m (List.mem_append_right _ (List.mem_of_getElem? (i := 26) rfl)) rfl
theorem wd_27 : (Cond.code ({ cls := "PriorityKernel$Task", name := "<init>", desc := "(I)V" } : MethodName) prog_3_method_1_code (2 : Nat) (Option.none : Option FieldType)) ∈ kn_T := kn_m (List.mem_append_right _ (List.mem_of_getElem? (i := 27) rfl)) rfl
theorem wd_28 : (Cond.methodLink "PriorityKernel$Task" (3 : Nat) ({ cls := "java/lang/Object", name := "<init>", desc := "()V" } : MethodName)) ∈ kn_T := kn_m (List.mem_append_right _ (List.mem_of_getElem? (i := 28) rfl)) rfl
theorem wd_29 : (Cond.constantLong "PriorityKernel$Task" (38 : Nat) (1000000000000 : Int64)) ∈ kn_T := kn_m (List.mem_append_right _ (List.mem_of_getElem? (i := 29) rfl)) rfl
theorem wd_30 : (Cond.fieldLink "PriorityKernel$Task" (55 : Nat) "PriorityKernel$Task" "number" "I") ∈ kn_T := kn_m (List.mem_append_right _ (List.mem_of_getElem? (i := 30) rfl)) rfl
theorem wd_31 : (Cond.fieldLink "PriorityKernel" (74 : Nat) "PriorityKernel$Task" "number" "I") ∈ kn_T := kn_m (List.mem_append_right _ (List.mem_of_getElem? (i := 31) rfl)) rfl
theorem wd_32 : (Cond.fieldLink "PriorityKernel$Task" (9 : Nat) "PriorityKernel$Task" "state" "I") ∈ kn_T := kn_m (List.mem_append_right _ (List.mem_of_getElem? (i := 32) rfl)) rfl
theorem wd_33 : (Cond.fieldLink "PriorityKernel" (81 : Nat) "PriorityKernel$Task" "state" "I") ∈ kn_T := kn_m (List.mem_append_right _ (List.mem_of_getElem? (i := 33) rfl)) rfl
theorem wd_34 : (Cond.fieldLink "PriorityKernel$Task" (15 : Nat) "PriorityKernel$Task" "base" "I") ∈ kn_T := kn_m (List.mem_append_right _ (List.mem_of_getElem? (i := 34) rfl)) rfl
theorem wd_35 : (Cond.fieldLink "PriorityKernel" (63 : Nat) "PriorityKernel$Task" "base" "I") ∈ kn_T := kn_m (List.mem_append_right _ (List.mem_of_getElem? (i := 35) rfl)) rfl
theorem wd_36 : (Cond.fieldLink "PriorityKernel$Task" (18 : Nat) "PriorityKernel$Task" "effective" "I") ∈ kn_T := kn_m (List.mem_append_right _ (List.mem_of_getElem? (i := 36) rfl)) rfl
theorem wd_37 : (Cond.fieldLink "PriorityKernel" (163 : Nat) "PriorityKernel$Task" "effective" "I") ∈ kn_T := kn_m (List.mem_append_right _ (List.mem_of_getElem? (i := 37) rfl)) rfl
theorem wd_38 : (Cond.fieldLink "PriorityKernel$Task" (21 : Nat) "PriorityKernel$Task" "sliced" "Z") ∈ kn_T := kn_m (List.mem_append_right _ (List.mem_of_getElem? (i := 38) rfl)) rfl
theorem wd_39 : (Cond.fieldLink "PriorityKernel" (66 : Nat) "PriorityKernel$Task" "sliced" "Z") ∈ kn_T := kn_m (List.mem_append_right _ (List.mem_of_getElem? (i := 39) rfl)) rfl
theorem wd_40 : (Cond.fieldLink "PriorityKernel$Task" (25 : Nat) "PriorityKernel$Task" "used" "I") ∈ kn_T := kn_m (List.mem_append_right _ (List.mem_of_getElem? (i := 40) rfl)) rfl
theorem wd_41 : (Cond.fieldLink "PriorityKernel" (192 : Nat) "PriorityKernel$Task" "used" "I") ∈ kn_T := kn_m (List.mem_append_right _ (List.mem_of_getElem? (i := 41) rfl)) rfl
theorem wd_42 : (Cond.fieldLink "PriorityKernel$Task" (28 : Nat) "PriorityKernel$Task" "result" "I") ∈ kn_T := kn_m (List.mem_append_right _ (List.mem_of_getElem? (i := 42) rfl)) rfl
theorem wd_43 : (Cond.fieldLink "PriorityKernel" (124 : Nat) "PriorityKernel$Task" "result" "I") ∈ kn_T := kn_m (List.mem_append_right _ (List.mem_of_getElem? (i := 43) rfl)) rfl
theorem wd_44 : (Cond.fieldLink "PriorityKernel$Task" (31 : Nat) "PriorityKernel$Task" "since" "J") ∈ kn_T := kn_m (List.mem_append_right _ (List.mem_of_getElem? (i := 44) rfl)) rfl
theorem wd_45 : (Cond.fieldLink "PriorityKernel" (84 : Nat) "PriorityKernel$Task" "since" "J") ∈ kn_T := kn_m (List.mem_append_right _ (List.mem_of_getElem? (i := 45) rfl)) rfl
theorem wd_46 : (Cond.fieldLink "PriorityKernel$Task" (35 : Nat) "PriorityKernel$Task" "waitsOn" "I") ∈ kn_T := kn_m (List.mem_append_right _ (List.mem_of_getElem? (i := 46) rfl)) rfl
theorem wd_47 : (Cond.fieldLink "PriorityKernel" (166 : Nat) "PriorityKernel$Task" "waitsOn" "I") ∈ kn_T := kn_m (List.mem_append_right _ (List.mem_of_getElem? (i := 47) rfl)) rfl
theorem wd_48 : (Cond.fieldLink "PriorityKernel$Task" (40 : Nat) "PriorityKernel$Task" "deadline" "J") ∈ kn_T := kn_m (List.mem_append_right _ (List.mem_of_getElem? (i := 48) rfl)) rfl
theorem wd_49 : (Cond.fieldLink "PriorityKernel" (169 : Nat) "PriorityKernel$Task" "deadline" "J") ∈ kn_T := kn_m (List.mem_append_right _ (List.mem_of_getElem? (i := 49) rfl)) rfl
theorem wd_50 : (Cond.fieldLink "PriorityKernel$Task" (43 : Nat) "PriorityKernel$Task" "mutexInMind" "I") ∈ kn_T := kn_m (List.mem_append_right _ (List.mem_of_getElem? (i := 50) rfl)) rfl
theorem wd_51 : (Cond.fieldLink "PriorityKernel" (106 : Nat) "PriorityKernel$Task" "mutexInMind" "I") ∈ kn_T := kn_m (List.mem_append_right _ (List.mem_of_getElem? (i := 51) rfl)) rfl
theorem wd_52 : (Cond.fieldLink "PriorityKernel$Task" (46 : Nat) "PriorityKernel$Task" "resultWhenOwning" "I") ∈ kn_T := kn_m (List.mem_append_right _ (List.mem_of_getElem? (i := 52) rfl)) rfl
theorem wd_53 : (Cond.fieldLink "PriorityKernel" (94 : Nat) "PriorityKernel$Task" "resultWhenOwning" "I") ∈ kn_T := kn_m (List.mem_append_right _ (List.mem_of_getElem? (i := 53) rfl)) rfl
theorem wd_54 : (Cond.fieldLink "PriorityKernel$Task" (49 : Nat) "PriorityKernel$Task" "rank" "I") ∈ kn_T := kn_m (List.mem_append_right _ (List.mem_of_getElem? (i := 54) rfl)) rfl
theorem wd_55 : (Cond.fieldLink "PriorityKernel" (131 : Nat) "PriorityKernel$Task" "rank" "I") ∈ kn_T := kn_m (List.mem_append_right _ (List.mem_of_getElem? (i := 55) rfl)) rfl
theorem wd_56 : (Cond.fieldLink "PriorityKernel$Task" (52 : Nat) "PriorityKernel$Task" "value" "I") ∈ kn_T := kn_m (List.mem_append_right _ (List.mem_of_getElem? (i := 56) rfl)) rfl
theorem wd_57 : (Cond.fieldLink "PriorityKernel" (134 : Nat) "PriorityKernel$Task" "value" "I") ∈ kn_T := kn_m (List.mem_append_right _ (List.mem_of_getElem? (i := 57) rfl)) rfl
theorem wd_87 : (Cond.arrayClass FieldType.int) ∈ kn_T := kn_m (List.mem_append_right _ (List.mem_of_getElem? (i := 87) rfl)) rfl
theorem wd_88 : (Cond.instantiable "PriorityKernel$MessageQueue" (3 : Nat)) ∈ kn_T := kn_m (List.mem_append_right _ (List.mem_of_getElem? (i := 88) rfl)) rfl
theorem wd_90 : (Cond.instanceMethod ({ cls := "PriorityKernel$MessageQueue", name := "<init>", desc := "()V" } : MethodName)) ∈ kn_T := kn_m (List.mem_append_right _ (List.mem_of_getElem? (i := 90) rfl)) rfl
theorem wd_91 : (Cond.code ({ cls := "PriorityKernel$MessageQueue", name := "<init>", desc := "()V" } : MethodName) prog_2_method_1_code (1 : Nat) (Option.none : Option FieldType)) ∈ kn_T := kn_m (List.mem_append_right _ (List.mem_of_getElem? (i := 91) rfl)) rfl
theorem wd_92 : (Cond.methodLink "PriorityKernel$MessageQueue" (3 : Nat) ({ cls := "java/lang/Object", name := "<init>", desc := "()V" } : MethodName)) ∈ kn_T := kn_m (List.mem_append_right _ (List.mem_of_getElem? (i := 92) rfl)) rfl
theorem wd_93 : (Cond.fieldLink "PriorityKernel$MessageQueue" (9 : Nat) "PriorityKernel$MessageQueue" "ranks" "[I") ∈ kn_T := kn_m (List.mem_append_right _ (List.mem_of_getElem? (i := 93) rfl)) rfl
theorem wd_94 : (Cond.fieldLink "PriorityKernel$MessageQueue" (15 : Nat) "PriorityKernel$MessageQueue" "contents" "[I") ∈ kn_T := kn_m (List.mem_append_right _ (List.mem_of_getElem? (i := 94) rfl)) rfl
theorem wd_95 : (Cond.fieldLink "PriorityKernel$MessageQueue" (18 : Nat) "PriorityKernel$MessageQueue" "size" "I") ∈ kn_T := kn_m (List.mem_append_right _ (List.mem_of_getElem? (i := 95) rfl)) rfl
theorem wd_96 : (Cond.fieldLink "PriorityKernel" (172 : Nat) "PriorityKernel$MessageQueue" "size" "I") ∈ kn_T := kn_m (List.mem_append_right _ (List.mem_of_getElem? (i := 96) rfl)) rfl
theorem wd_104 : (Cond.fieldLink "PriorityKernel" (45 : Nat) "PriorityKernel" "slice" "I") ∈ kn_T := kn_m (List.mem_append_right _ (List.mem_of_getElem? (i := 104) rfl)) rfl
theorem wd_105 : (Cond.fieldLink "PriorityKernel" (48 : Nat) "PriorityKernel" "ceiling" "I") ∈ kn_T := kn_m (List.mem_append_right _ (List.mem_of_getElem? (i := 105) rfl)) rfl
theorem wd_106 : (Cond.fieldLink "PriorityKernel" (11 : Nat) "PriorityKernel" "tasks" "[LPriorityKernel$Task;") ∈ kn_T := kn_m (List.mem_append_right _ (List.mem_of_getElem? (i := 106) rfl)) rfl
theorem wd_107 : (Cond.fieldLink "PriorityKernel" (15 : Nat) "PriorityKernel" "owners" "[I") ∈ kn_T := kn_m (List.mem_append_right _ (List.mem_of_getElem? (i := 107) rfl)) rfl
theorem wd_108 : (Cond.fieldLink "PriorityKernel" (19 : Nat) "PriorityKernel" "values" "[I") ∈ kn_T := kn_m (List.mem_append_right _ (List.mem_of_getElem? (i := 108) rfl)) rfl
theorem wd_109 : (Cond.fieldLink "PriorityKernel" (24 : Nat) "PriorityKernel" "queues" "[LPriorityKernel$MessageQueue;") ∈ kn_T := kn_m (List.mem_append_right _ (List.mem_of_getElem? (i := 109) rfl)) rfl
theorem wd_110 : (Cond.fieldLink "PriorityKernel" (28 : Nat) "PriorityKernel" "time" "I") ∈ kn_T := kn_m (List.mem_append_right _ (List.mem_of_getElem? (i := 110) rfl)) rfl
theorem wd_111 : (Cond.fieldLink "PriorityKernel" (32 : Nat) "PriorityKernel" "lastMoment" "J") ∈ kn_T := kn_m (List.mem_append_right _ (List.mem_of_getElem? (i := 111) rfl)) rfl
theorem wd_133 : (Cond.methodLink "PriorityKernel" (55 : Nat) ({ cls := "PriorityKernel", name := "isPriority", desc := "(I)Z" } : MethodName)) ∈ kn_T := kn_m (List.mem_append_right _ (List.mem_of_getElem? (i := 133) rfl)) rfl
theorem wd_134 : (Cond.static ({ cls := "PriorityKernel", name := "isPriority", desc := "(I)Z" } : MethodName)) ∈ kn_T := kn_m (List.mem_append_right _ (List.mem_of_getElem? (i := 134) rfl)) rfl
theorem wd_135 : (Cond.code ({ cls := "PriorityKernel", name := "isPriority", desc := "(I)Z" } : MethodName) prog_1_method_22_code (1 : Nat) (Option.some FieldType.boolean)) ∈ kn_T := kn_m (List.mem_append_right _ (List.mem_of_getElem? (i := 135) rfl)) rfl
theorem wd_136 : (Cond.methodLink "PriorityKernel" (59 : Nat) ({ cls := "PriorityKernel", name := "leastFree", desc := "()LPriorityKernel$Task;" } : MethodName)) ∈ kn_T := kn_m (List.mem_append_right _ (List.mem_of_getElem? (i := 136) rfl)) rfl
theorem wd_138 : (Cond.instanceMethod ({ cls := "PriorityKernel", name := "leastFree", desc := "()LPriorityKernel$Task;" } : MethodName)) ∈ kn_T := kn_m (List.mem_append_right _ (List.mem_of_getElem? (i := 138) rfl)) rfl
theorem wd_139 : (Cond.code ({ cls := "PriorityKernel", name := "leastFree", desc := "()LPriorityKernel$Task;" } : MethodName) prog_1_method_25_code (5 : Nat) (Option.some (FieldType.object "PriorityKernel$Task"))) ∈ kn_T := kn_m (List.mem_append_right _ (List.mem_of_getElem? (i := 139) rfl)) rfl
theorem wd_140 : (Cond.methodLink "PriorityKernel" (70 : Nat) ({ cls := "PriorityKernel", name := "makeReady", desc := "(LPriorityKernel$Task;I)V" } : MethodName)) ∈ kn_T := kn_m (List.mem_append_right _ (List.mem_of_getElem? (i := 140) rfl)) rfl
theorem wd_142 : (Cond.instanceMethod ({ cls := "PriorityKernel", name := "makeReady", desc := "(LPriorityKernel$Task;I)V" } : MethodName)) ∈ kn_T := kn_m (List.mem_append_right _ (List.mem_of_getElem? (i := 142) rfl)) rfl
theorem wd_143 : (Cond.code ({ cls := "PriorityKernel", name := "makeReady", desc := "(LPriorityKernel$Task;I)V" } : MethodName) prog_1_method_35_code (3 : Nat) (Option.none : Option FieldType)) ∈ kn_T := kn_m (List.mem_append_right _ (List.mem_of_getElem? (i := 143) rfl)) rfl
theorem wd_144 : (Cond.constantLong "PriorityKernel" (137 : Nat) (1000000000000 : Int64)) ∈ kn_T := kn_m (List.mem_append_right _ (List.mem_of_getElem? (i := 144) rfl)) rfl
theorem wd_149 : (Cond.methodLink "PriorityKernel" (77 : Nat) ({ cls := "PriorityKernel", name := "isBelow", desc := "(II)Z" } : MethodName)) ∈ kn_T := kn_m (List.mem_append_right _ (List.mem_of_getElem? (i := 149) rfl)) rfl
theorem wd_150 : (Cond.static ({ cls := "PriorityKernel", name := "isBelow", desc := "(II)Z" } : MethodName)) ∈ kn_T := kn_m (List.mem_append_right _ (List.mem_of_getElem? (i := 150) rfl)) rfl
theorem wd_151 : (Cond.code ({ cls := "PriorityKernel", name := "isBelow", desc := "(II)Z" } : MethodName) prog_1_method_21_code (2 : Nat) (Option.some FieldType.boolean)) ∈ kn_T := kn_m (List.mem_append_right _ (List.mem_of_getElem? (i := 151) rfl)) rfl
theorem wd_156 : (Cond.methodLink "PriorityKernel" (87 : Nat) ({ cls := "PriorityKernel", name := "runner", desc := "()LPriorityKernel$Task;" } : MethodName)) ∈ kn_T := kn_m (List.mem_append_right _ (List.mem_of_getElem? (i := 156) rfl)) rfl
theorem wd_158 : (Cond.instanceMethod ({ cls := "PriorityKernel", name := "runner", desc := "()LPriorityKernel$Task;" } : MethodName)) ∈ kn_T := kn_m (List.mem_append_right _ (List.mem_of_getElem? (i := 158) rfl)) rfl
theorem wd_159 : (Cond.code ({ cls := "PriorityKernel", name := "runner", desc := "()LPriorityKernel$Task;" } : MethodName) prog_1_method_28_code (1 : Nat) (Option.some (FieldType.object "PriorityKernel$Task"))) ∈ kn_T := kn_m (List.mem_append_right _ (List.mem_of_getElem? (i := 159) rfl)) rfl
theorem wd_160 : (Cond.methodLink "PriorityKernel" (178 : Nat) ({ cls := "PriorityKernel", name := "foremost", desc := "(II)LPriorityKernel$Task;" } : MethodName)) ∈ kn_T := kn_m (List.mem_append_right _ (List.mem_of_getElem? (i := 160) rfl)) rfl
theorem wd_162 : (Cond.instanceMethod ({ cls := "PriorityKernel", name := "foremost", desc := "(II)LPriorityKernel$Task;" } : MethodName)) ∈ kn_T := kn_m (List.mem_append_right _ (List.mem_of_getElem? (i := 162) rfl)) rfl
theorem wd_163 : (Cond.code ({ cls := "PriorityKernel", name := "foremost", desc := "(II)LPriorityKernel$Task;" } : MethodName) prog_1_method_30_code (8 : Nat) (Option.some (FieldType.object "PriorityKernel$Task"))) ∈ kn_T := kn_m (List.mem_append_right _ (List.mem_of_getElem? (i := 163) rfl)) rfl
theorem wd_164 : (Cond.methodLink "PriorityKernel" (160 : Nat) ({ cls := "PriorityKernel", name := "workOutEffective", desc := "()V" } : MethodName)) ∈ kn_T := kn_m (List.mem_append_right _ (List.mem_of_getElem? (i := 164) rfl)) rfl
theorem wd_166 : (Cond.instanceMethod ({ cls := "PriorityKernel", name := "workOutEffective", desc := "()V" } : MethodName)) ∈ kn_T := kn_m (List.mem_append_right _ (List.mem_of_getElem? (i := 166) rfl)) rfl
theorem wd_167 : (Cond.code ({ cls := "PriorityKernel", name := "workOutEffective", desc := "()V" } : MethodName) prog_1_method_31_code (5 : Nat) (Option.none : Option FieldType)) ∈ kn_T := kn_m (List.mem_append_right _ (List.mem_of_getElem? (i := 167) rfl)) rfl
theorem wd_168 : (Cond.methodLink "PriorityKernel" (185 : Nat) ({ cls := "PriorityKernel", name := "inheritOnce", desc := "()Z" } : MethodName)) ∈ kn_T := kn_m (List.mem_append_right _ (List.mem_of_getElem? (i := 168) rfl)) rfl
theorem wd_170 : (Cond.instanceMethod ({ cls := "PriorityKernel", name := "inheritOnce", desc := "()Z" } : MethodName)) ∈ kn_T := kn_m (List.mem_append_right _ (List.mem_of_getElem? (i := 170) rfl)) rfl
theorem wd_171 : (Cond.code ({ cls := "PriorityKernel", name := "inheritOnce", desc := "()Z" } : MethodName) prog_1_method_32_code (7 : Nat) (Option.some FieldType.boolean)) ∈ kn_T := kn_m (List.mem_append_right _ (List.mem_of_getElem? (i := 171) rfl)) rfl
theorem wd_172 : (Cond.methodLink "PriorityKernel" (188 : Nat) ({ cls := "PriorityKernel", name := "heirOf", desc := "(LPriorityKernel$Task;)I" } : MethodName)) ∈ kn_T := kn_m (List.mem_append_right _ (List.mem_of_getElem? (i := 172) rfl)) rfl
theorem wd_174 : (Cond.instanceMethod ({ cls := "PriorityKernel", name := "heirOf", desc := "(LPriorityKernel$Task;)I" } : MethodName)) ∈ kn_T := kn_m (List.mem_append_right _ (List.mem_of_getElem? (i := 174) rfl)) rfl
theorem wd_175 : (Cond.code ({ cls := "PriorityKernel", name := "heirOf", desc := "(LPriorityKernel$Task;)I" } : MethodName) prog_1_method_33_code (3 : Nat) (Option.some FieldType.int)) ∈ kn_T := kn_m (List.mem_append_right _ (List.mem_of_getElem? (i := 175) rfl)) rfl
theorem wd_176 : (Cond.methodLink "PriorityKernel" (182 : Nat) ({ cls := "PriorityKernel$Task", name := "isAheadOf", desc := "(LPriorityKernel$Task;)Z" } : MethodName)) ∈ kn_T := kn_m (List.mem_append_right _ (List.mem_of_getElem? (i := 176) rfl)) rfl
theorem wd_177 : (Cond.instanceMethod ({ cls := "PriorityKernel$Task", name := "isAheadOf", desc := "(LPriorityKernel$Task;)Z" } : MethodName)) ∈ kn_T := kn_m (List.mem_append_right _ (List.mem_of_getElem? (i := 177) rfl)) rfl
theorem wd_178 : (Cond.selects "PriorityKernel$Task" ({ cls := "PriorityKernel$Task", name := "isAheadOf", desc := "(LPriorityKernel$Task;)Z" } : MethodName) ({ cls := "PriorityKernel$Task", name := "isAheadOf", desc := "(LPriorityKernel$Task;)Z" } : MethodName)) ∈ kn_T := kn_m (List.mem_append_right _ (List.mem_of_getElem? (i := 178) rfl)) rfl
theorem wd_179 : (Cond.code ({ cls := "PriorityKernel$Task", name := "isAheadOf", desc := "(LPriorityKernel$Task;)Z" } : MethodName) prog_3_method_2_code (2 : Nat) (Option.some FieldType.boolean)) ∈ kn_T := kn_m (List.mem_append_right _ (List.mem_of_getElem? (i := 179) rfl)) rfl
theorem wd_180 : (Cond.methodLink "PriorityKernel" (90 : Nat) ({ cls := "PriorityKernel", name := "startTurn", desc := "(LPriorityKernel$Task;)V" } : MethodName)) ∈ kn_T := kn_m (List.mem_append_right _ (List.mem_of_getElem? (i := 180) rfl)) rfl
theorem wd_182 : (Cond.instanceMethod ({ cls := "PriorityKernel", name := "startTurn", desc := "(LPriorityKernel$Task;)V" } : MethodName)) ∈ kn_T := kn_m (List.mem_append_right _ (List.mem_of_getElem? (i := 182) rfl)) rfl
theorem wd_183 : (Cond.code ({ cls := "PriorityKernel", name := "startTurn", desc := "(LPriorityKernel$Task;)V" } : MethodName) prog_1_method_34_code (2 : Nat) (Option.none : Option FieldType)) ∈ kn_T := kn_m (List.mem_append_right _ (List.mem_of_getElem? (i := 183) rfl)) rfl
theorem wd_188 : (Cond.methodLink "PriorityKernel" (97 : Nat) ({ cls := "PriorityKernel", name := "take", desc := "(LPriorityKernel$Task;I)V" } : MethodName)) ∈ kn_T := kn_m (List.mem_append_right _ (List.mem_of_getElem? (i := 188) rfl)) rfl
theorem wd_190 : (Cond.instanceMethod ({ cls := "PriorityKernel", name := "take", desc := "(LPriorityKernel$Task;I)V" } : MethodName)) ∈ kn_T := kn_m (List.mem_append_right _ (List.mem_of_getElem? (i := 190) rfl)) rfl
theorem wd_191 : (Cond.code ({ cls := "PriorityKernel", name := "take", desc := "(LPriorityKernel$Task;I)V" } : MethodName) prog_1_method_37_code (3 : Nat) (Option.none : Option FieldType)) ∈ kn_T := kn_m (List.mem_append_right _ (List.mem_of_getElem? (i := 191) rfl)) rfl
theorem wd_192 : (Cond.methodLink "PriorityKernel" (195 : Nat) ({ cls := "PriorityKernel", name := "makeOwner", desc := "(LPriorityKernel$Task;I)V" } : MethodName)) ∈ kn_T := kn_m (List.mem_append_right _ (List.mem_of_getElem? (i := 192) rfl)) rfl
theorem wd_194 : (Cond.instanceMethod ({ cls := "PriorityKernel", name := "makeOwner", desc := "(LPriorityKernel$Task;I)V" } : MethodName)) ∈ kn_T := kn_m (List.mem_append_right _ (List.mem_of_getElem? (i := 194) rfl)) rfl
theorem wd_195 : (Cond.code ({ cls := "PriorityKernel", name := "makeOwner", desc := "(LPriorityKernel$Task;I)V" } : MethodName) prog_1_method_39_code (3 : Nat) (Option.none : Option FieldType)) ∈ kn_T := kn_m (List.mem_append_right _ (List.mem_of_getElem? (i := 195) rfl)) rfl
theorem wd_196 : (Cond.methodLink "PriorityKernel" (113 : Nat) ({ cls := "PriorityKernel", name := "block", desc := "(LPriorityKernel$Task;IJ)V" } : MethodName)) ∈ kn_T := kn_m (List.mem_append_right _ (List.mem_of_getElem? (i := 196) rfl)) rfl
theorem wd_198 : (Cond.instanceMethod ({ cls := "PriorityKernel", name := "block", desc := "(LPriorityKernel$Task;IJ)V" } : MethodName)) ∈ kn_T := kn_m (List.mem_append_right _ (List.mem_of_getElem? (i := 198) rfl)) rfl
theorem wd_199 : (Cond.code ({ cls := "PriorityKernel", name := "block", desc := "(LPriorityKernel$Task;IJ)V" } : MethodName) prog_1_method_36_code (5 : Nat) (Option.none : Option FieldType)) ∈ kn_T := kn_m (List.mem_append_right _ (List.mem_of_getElem? (i := 199) rfl)) rfl
theorem wd_204 : (Cond.methodLink "PriorityKernel" (100 : Nat) ({ cls := "PriorityKernel", name := "give", desc := "(I)V" } : MethodName)) ∈ kn_T := kn_m (List.mem_append_right _ (List.mem_of_getElem? (i := 204) rfl)) rfl
theorem wd_206 : (Cond.instanceMethod ({ cls := "PriorityKernel", name := "give", desc := "(I)V" } : MethodName)) ∈ kn_T := kn_m (List.mem_append_right _ (List.mem_of_getElem? (i := 206) rfl)) rfl
theorem wd_207 : (Cond.code ({ cls := "PriorityKernel", name := "give", desc := "(I)V" } : MethodName) prog_1_method_38_code (3 : Nat) (Option.none : Option FieldType)) ∈ kn_T := kn_m (List.mem_append_right _ (List.mem_of_getElem? (i := 207) rfl)) rfl
theorem wd_208 : (Cond.methodLink "PriorityKernel" (117 : Nat) ({ cls := "PriorityKernel", name := "firstWaiter", desc := "(I)LPriorityKernel$Task;" } : MethodName)) ∈ kn_T := kn_m (List.mem_append_right _ (List.mem_of_getElem? (i := 208) rfl)) rfl
theorem wd_210 : (Cond.instanceMethod ({ cls := "PriorityKernel", name := "firstWaiter", desc := "(I)LPriorityKernel$Task;" } : MethodName)) ∈ kn_T := kn_m (List.mem_append_right _ (List.mem_of_getElem? (i := 210) rfl)) rfl
theorem wd_211 : (Cond.code ({ cls := "PriorityKernel", name := "firstWaiter", desc := "(I)LPriorityKernel$Task;" } : MethodName) prog_1_method_29_code (2 : Nat) (Option.some (FieldType.object "PriorityKernel$Task"))) ∈ kn_T := kn_m (List.mem_append_right _ (List.mem_of_getElem? (i := 211) rfl)) rfl
theorem wd_216 : (Cond.methodLink "PriorityKernel" (103 : Nat) ({ cls := "PriorityKernel", name := "isTimeout", desc := "(I)Z" } : MethodName)) ∈ kn_T := kn_m (List.mem_append_right _ (List.mem_of_getElem? (i := 216) rfl)) rfl
theorem wd_217 : (Cond.static ({ cls := "PriorityKernel", name := "isTimeout", desc := "(I)Z" } : MethodName)) ∈ kn_T := kn_m (List.mem_append_right _ (List.mem_of_getElem? (i := 217) rfl)) rfl
theorem wd_218 : (Cond.code ({ cls := "PriorityKernel", name := "isTimeout", desc := "(I)Z" } : MethodName) prog_1_method_23_code (1 : Nat) (Option.some FieldType.boolean)) ∈ kn_T := kn_m (List.mem_append_right _ (List.mem_of_getElem? (i := 218) rfl)) rfl
theorem wd_219 : (Cond.methodLink "PriorityKernel" (109 : Nat) ({ cls := "PriorityKernel", name := "deadlineAfter", desc := "(I)J" } : MethodName)) ∈ kn_T := kn_m (List.mem_append_right _ (List.mem_of_getElem? (i := 219) rfl)) rfl
theorem wd_221 : (Cond.instanceMethod ({ cls := "PriorityKernel", name := "deadlineAfter", desc := "(I)J" } : MethodName)) ∈ kn_T := kn_m (List.mem_append_right _ (List.mem_of_getElem? (i := 221) rfl)) rfl
theorem wd_222 : (Cond.code ({ cls := "PriorityKernel", name := "deadlineAfter", desc := "(I)J" } : MethodName) prog_1_method_24_code (2 : Nat) (Option.some FieldType.long)) ∈ kn_T := kn_m (List.mem_append_right _ (List.mem_of_getElem? (i := 222) rfl)) rfl
theorem wd_227 : (Cond.methodLink "PriorityKernel" (121 : Nat) ({ cls := "PriorityKernel", name := "endAwait", desc := "(LPriorityKernel$Task;I)V" } : MethodName)) ∈ kn_T := kn_m (List.mem_append_right _ (List.mem_of_getElem? (i := 227) rfl)) rfl
theorem wd_229 : (Cond.instanceMethod ({ cls := "PriorityKernel", name := "endAwait", desc := "(LPriorityKernel$Task;I)V" } : MethodName)) ∈ kn_T := kn_m (List.mem_append_right _ (List.mem_of_getElem? (i := 229) rfl)) rfl
theorem wd_230 : (Cond.code ({ cls := "PriorityKernel", name := "endAwait", desc := "(LPriorityKernel$Task;I)V" } : MethodName) prog_1_method_40_code (3 : Nat) (Option.none : Option FieldType)) ∈ kn_T := kn_m (List.mem_append_right _ (List.mem_of_getElem? (i := 230) rfl)) rfl
theorem wd_243 : (Cond.methodLink "PriorityKernel" (127 : Nat) ({ cls := "PriorityKernel$MessageQueue", name := "isFull", desc := "()Z" } : MethodName)) ∈ kn_T := kn_m (List.mem_append_right _ (List.mem_of_getElem? (i := 243) rfl)) rfl
theorem wd_244 : (Cond.instanceMethod ({ cls := "PriorityKernel$MessageQueue", name := "isFull", desc := "()Z" } : MethodName)) ∈ kn_T := kn_m (List.mem_append_right _ (List.mem_of_getElem? (i := 244) rfl)) rfl
theorem wd_245 : (Cond.selects "PriorityKernel$MessageQueue" ({ cls := "PriorityKernel$MessageQueue", name := "isFull", desc := "()Z" } : MethodName) ({ cls := "PriorityKernel$MessageQueue", name := "isFull", desc := "()Z" } : MethodName)) ∈ kn_T := kn_m (List.mem_append_right _ (List.mem_of_getElem? (i := 245) rfl)) rfl
theorem wd_246 : (Cond.code ({ cls := "PriorityKernel$MessageQueue", name := "isFull", desc := "()Z" } : MethodName) prog_2_method_3_code (1 : Nat) (Option.some FieldType.boolean)) ∈ kn_T := kn_m (List.mem_append_right _ (List.mem_of_getElem? (i := 246) rfl)) rfl
theorem wd_247 : (Cond.methodLink "PriorityKernel" (139 : Nat) ({ cls := "PriorityKernel", name := "arrive", desc := "(III)V" } : MethodName)) ∈ kn_T := kn_m (List.mem_append_right _ (List.mem_of_getElem? (i := 247) rfl)) rfl
theorem wd_249 : (Cond.instanceMethod ({ cls := "PriorityKernel", name := "arrive", desc := "(III)V" } : MethodName)) ∈ kn_T := kn_m (List.mem_append_right _ (List.mem_of_getElem? (i := 249) rfl)) rfl
theorem wd_250 : (Cond.code ({ cls := "PriorityKernel", name := "arrive", desc := "(III)V" } : MethodName) prog_1_method_41_code (5 : Nat) (Option.none : Option FieldType)) ∈ kn_T := kn_m (List.mem_append_right _ (List.mem_of_getElem? (i := 250) rfl)) rfl
theorem wd_251 : (Cond.methodLink "PriorityKernel" (198 : Nat) ({ cls := "PriorityKernel$MessageQueue", name := "insert", desc := "(II)V" } : MethodName)) ∈ kn_T := kn_m (List.mem_append_right _ (List.mem_of_getElem? (i := 251) rfl)) rfl
theorem wd_252 : (Cond.instanceMethod ({ cls := "PriorityKernel$MessageQueue", name := "insert", desc := "(II)V" } : MethodName)) ∈ kn_T := kn_m (List.mem_append_right _ (List.mem_of_getElem? (i := 252) rfl)) rfl
theorem wd_253 : (Cond.selects "PriorityKernel$MessageQueue" ({ cls := "PriorityKernel$MessageQueue", name := "insert", desc := "(II)V" } : MethodName) ({ cls := "PriorityKernel$MessageQueue", name := "insert", desc := "(II)V" } : MethodName)) ∈ kn_T := kn_m (List.mem_append_right _ (List.mem_of_getElem? (i := 253) rfl)) rfl
theorem wd_254 : (Cond.code ({ cls := "PriorityKernel$MessageQueue", name := "insert", desc := "(II)V" } : MethodName) prog_2_method_4_code (4 : Nat) (Option.none : Option FieldType)) ∈ kn_T := kn_m (List.mem_append_right _ (List.mem_of_getElem? (i := 254) rfl)) rfl
theorem wd_255 : (Cond.methodLink "PriorityKernel$MessageQueue" (22 : Nat) ({ cls := "PriorityKernel$MessageQueue", name := "isFull", desc := "()Z" } : MethodName)) ∈ kn_T := kn_m (List.mem_append_right _ (List.mem_of_getElem? (i := 255) rfl)) rfl
theorem wd_260 : (Cond.methodLink "PriorityKernel" (143 : Nat) ({ cls := "PriorityKernel$MessageQueue", name := "isEmpty", desc := "()Z" } : MethodName)) ∈ kn_T := kn_m (List.mem_append_right _ (List.mem_of_getElem? (i := 260) rfl)) rfl
theorem wd_261 : (Cond.instanceMethod ({ cls := "PriorityKernel$MessageQueue", name := "isEmpty", desc := "()Z" } : MethodName)) ∈ kn_T := kn_m (List.mem_append_right _ (List.mem_of_getElem? (i := 261) rfl)) rfl
theorem wd_262 : (Cond.selects "PriorityKernel$MessageQueue" ({ cls := "PriorityKernel$MessageQueue", name := "isEmpty", desc := "()Z" } : MethodName) ({ cls := "PriorityKernel$MessageQueue", name := "isEmpty", desc := "()Z" } : MethodName)) ∈ kn_T := kn_m (List.mem_append_right _ (List.mem_of_getElem? (i := 262) rfl)) rfl
theorem wd_263 : (Cond.code ({ cls := "PriorityKernel$MessageQueue", name := "isEmpty", desc := "()Z" } : MethodName) prog_2_method_2_code (1 : Nat) (Option.some FieldType.boolean)) ∈ kn_T := kn_m (List.mem_append_right _ (List.mem_of_getElem? (i := 263) rfl)) rfl
theorem wd_264 : (Cond.methodLink "PriorityKernel" (146 : Nat) ({ cls := "PriorityKernel$MessageQueue", name := "removeFirst", desc := "()I" } : MethodName)) ∈ kn_T := kn_m (List.mem_append_right _ (List.mem_of_getElem? (i := 264) rfl)) rfl
theorem wd_265 : (Cond.instanceMethod ({ cls := "PriorityKernel$MessageQueue", name := "removeFirst", desc := "()I" } : MethodName)) ∈ kn_T := kn_m (List.mem_append_right _ (List.mem_of_getElem? (i := 265) rfl)) rfl
theorem wd_266 : (Cond.selects "PriorityKernel$MessageQueue" ({ cls := "PriorityKernel$MessageQueue", name := "removeFirst", desc := "()I" } : MethodName) ({ cls := "PriorityKernel$MessageQueue", name := "removeFirst", desc := "()I" } : MethodName)) ∈ kn_T := kn_m (List.mem_append_right _ (List.mem_of_getElem? (i := 266) rfl)) rfl
theorem wd_267 : (Cond.code ({ cls := "PriorityKernel$MessageQueue", name := "removeFirst", desc := "()I" } : MethodName) prog_2_method_5_code (3 : Nat) (Option.some FieldType.int)) ∈ kn_T := kn_m (List.mem_append_right _ (List.mem_of_getElem? (i := 267) rfl)) rfl
theorem wd_268 : (Cond.methodLink "PriorityKernel$MessageQueue" (26 : Nat) ({ cls := "PriorityKernel$MessageQueue", name := "isEmpty", desc := "()Z" } : MethodName)) ∈ kn_T := kn_m (List.mem_append_right _ (List.mem_of_getElem? (i := 268) rfl)) rfl
theorem wd_281 : (Cond.methodLink "PriorityKernel" (150 : Nat) ({ cls := "PriorityKernel", name := "ownsAny", desc := "(LPriorityKernel$Task;)Z" } : MethodName)) ∈ kn_T := kn_m (List.mem_append_right _ (List.mem_of_getElem? (i := 281) rfl)) rfl
theorem wd_283 : (Cond.instanceMethod ({ cls := "PriorityKernel", name := "ownsAny", desc := "(LPriorityKernel$Task;)Z" } : MethodName)) ∈ kn_T := kn_m (List.mem_append_right _ (List.mem_of_getElem? (i := 283) rfl)) rfl
theorem wd_284 : (Cond.code ({ cls := "PriorityKernel", name := "ownsAny", desc := "(LPriorityKernel$Task;)Z" } : MethodName) prog_1_method_27_code (6 : Nat) (Option.some FieldType.boolean)) ∈ kn_T := kn_m (List.mem_append_right _ (List.mem_of_getElem? (i := 284) rfl)) rfl
theorem wd_289 : (Cond.methodLink "PriorityKernel" (154 : Nat) ({ cls := "PriorityKernel", name := "tickOnce", desc := "()V" } : MethodName)) ∈ kn_T := kn_m (List.mem_append_right _ (List.mem_of_getElem? (i := 289) rfl)) rfl
theorem wd_291 : (Cond.instanceMethod ({ cls := "PriorityKernel", name := "tickOnce", desc := "()V" } : MethodName)) ∈ kn_T := kn_m (List.mem_append_right _ (List.mem_of_getElem? (i := 291) rfl)) rfl
theorem wd_292 : (Cond.code ({ cls := "PriorityKernel", name := "tickOnce", desc := "()V" } : MethodName) prog_1_method_42_code (6 : Nat) (Option.none : Option FieldType)) ∈ kn_T := kn_m (List.mem_append_right _ (List.mem_of_getElem? (i := 292) rfl)) rfl
theorem wd_293 : (Cond.methodLink "PriorityKernel" (202 : Nat) ({ cls := "PriorityKernel", name := "useTick", desc := "(LPriorityKernel$Task;)V" } : MethodName)) ∈ kn_T := kn_m (List.mem_append_right _ (List.mem_of_getElem? (i := 293) rfl)) rfl
theorem wd_295 : (Cond.instanceMethod ({ cls := "PriorityKernel", name := "useTick", desc := "(LPriorityKernel$Task;)V" } : MethodName)) ∈ kn_T := kn_m (List.mem_append_right _ (List.mem_of_getElem? (i := 295) rfl)) rfl
theorem wd_296 : (Cond.code ({ cls := "PriorityKernel", name := "useTick", desc := "(LPriorityKernel$Task;)V" } : MethodName) prog_1_method_43_code (2 : Nat) (Option.none : Option FieldType)) ∈ kn_T := kn_m (List.mem_append_right _ (List.mem_of_getElem? (i := 296) rfl)) rfl
theorem wd_297 : (Cond.methodLink "PriorityKernel" (205 : Nat) ({ cls := "PriorityKernel", name := "endWait", desc := "(LPriorityKernel$Task;)V" } : MethodName)) ∈ kn_T := kn_m (List.mem_append_right _ (List.mem_of_getElem? (i := 297) rfl)) rfl
theorem wd_299 : (Cond.instanceMethod ({ cls := "PriorityKernel", name := "endWait", desc := "(LPriorityKernel$Task;)V" } : MethodName)) ∈ kn_T := kn_m (List.mem_append_right _ (List.mem_of_getElem? (i := 299) rfl)) rfl
theorem wd_300 : (Cond.code ({ cls := "PriorityKernel", name := "endWait", desc := "(LPriorityKernel$Task;)V" } : MethodName) prog_1_method_44_code (2 : Nat) (Option.none : Option FieldType)) ∈ kn_T := kn_m (List.mem_append_right _ (List.mem_of_getElem? (i := 300) rfl)) rfl
theorem wd_301 : (Cond.methodLink "PriorityKernel" (157 : Nat) ({ cls := "PriorityKernel", name := "running", desc := "()I" } : MethodName)) ∈ kn_T := kn_m (List.mem_append_right _ (List.mem_of_getElem? (i := 301) rfl)) rfl
theorem wd_302 : (Cond.instanceMethod ({ cls := "PriorityKernel", name := "running", desc := "()I" } : MethodName)) ∈ kn_T := kn_m (List.mem_append_right _ (List.mem_of_getElem? (i := 302) rfl)) rfl
theorem wd_303 : (Cond.selects "PriorityKernel" ({ cls := "PriorityKernel", name := "running", desc := "()I" } : MethodName) ({ cls := "PriorityKernel", name := "running", desc := "()I" } : MethodName)) ∈ kn_T := kn_m (List.mem_append_right _ (List.mem_of_getElem? (i := 303) rfl)) rfl
theorem wd_304 : (Cond.code ({ cls := "PriorityKernel", name := "running", desc := "()I" } : MethodName) prog_1_method_17_code (2 : Nat) (Option.some FieldType.int)) ∈ kn_T := kn_m (List.mem_append_right _ (List.mem_of_getElem? (i := 304) rfl)) rfl
theorem wd_318 : (Cond.methodLink "PriorityKernel" (175 : Nat) ({ cls := "PriorityKernel", name := "readyThreads", desc := "()I" } : MethodName)) ∈ kn_T := kn_m (List.mem_append_right _ (List.mem_of_getElem? (i := 318) rfl)) rfl
theorem wd_320 : (Cond.instanceMethod ({ cls := "PriorityKernel", name := "readyThreads", desc := "()I" } : MethodName)) ∈ kn_T := kn_m (List.mem_append_right _ (List.mem_of_getElem? (i := 320) rfl)) rfl
theorem wd_321 : (Cond.code ({ cls := "PriorityKernel", name := "readyThreads", desc := "()I" } : MethodName) prog_1_method_26_code (6 : Nat) (Option.some FieldType.int)) ∈ kn_T := kn_m (List.mem_append_right _ (List.mem_of_getElem? (i := 321) rfl)) rfl
theorem wd_330 : (Cond.methodLink "PriorityKernelModel" (1 : Nat) ({ cls := "java/lang/Object", name := "<init>", desc := "()V" } : MethodName)) ∈ kn_T := kn_m (List.mem_append_right _ (List.mem_of_getElem? (i := 330) rfl)) rfl
theorem wd_331 : (Cond.fieldLink "PriorityKernelModel" (75 : Nat) "PriorityKernelModel" "slice" "I") ∈ kn_T := kn_m (List.mem_append_right _ (List.mem_of_getElem? (i := 331) rfl)) rfl
theorem wd_332 : (Cond.fieldLink "PriorityKernelModel" (78 : Nat) "PriorityKernelModel" "ceiling" "I") ∈ kn_T := kn_m (List.mem_append_right _ (List.mem_of_getElem? (i := 332) rfl)) rfl
theorem wd_333 : (Cond.fieldLink "PriorityKernelModel" (7 : Nat) "PriorityKernelModel" "time" "I") ∈ kn_T := kn_m (List.mem_append_right _ (List.mem_of_getElem? (i := 333) rfl)) rfl
theorem wd_334 : (Cond.fieldLink "PriorityKernelModel" (13 : Nat) "PriorityKernelModel" "stamps" "I") ∈ kn_T := kn_m (List.mem_append_right _ (List.mem_of_getElem? (i := 334) rfl)) rfl
theorem wd_335 : (Cond.fieldLink "PriorityKernelModel" (16 : Nat) "PriorityKernelModel" "state" "[I") ∈ kn_T := kn_m (List.mem_append_right _ (List.mem_of_getElem? (i := 335) rfl)) rfl
theorem wd_336 : (Cond.fieldLink "PriorityKernelModel" (20 : Nat) "PriorityKernelModel" "base" "[I") ∈ kn_T := kn_m (List.mem_append_right _ (List.mem_of_getElem? (i := 336) rfl)) rfl
theorem wd_337 : (Cond.fieldLink "PriorityKernelModel" (23 : Nat) "PriorityKernelModel" "stamp" "[I") ∈ kn_T := kn_m (List.mem_append_right _ (List.mem_of_getElem? (i := 337) rfl)) rfl
theorem wd_338 : (Cond.fieldLink "PriorityKernelModel" (26 : Nat) "PriorityKernelModel" "used" "[I") ∈ kn_T := kn_m (List.mem_append_right _ (List.mem_of_getElem? (i := 338) rfl)) rfl
theorem wd_339 : (Cond.fieldLink "PriorityKernelModel" (29 : Nat) "PriorityKernelModel" "on" "[I") ∈ kn_T := kn_m (List.mem_append_right _ (List.mem_of_getElem? (i := 339) rfl)) rfl
theorem wd_340 : (Cond.fieldLink "PriorityKernelModel" (32 : Nat) "PriorityKernelModel" "since" "[I") ∈ kn_T := kn_m (List.mem_append_right _ (List.mem_of_getElem? (i := 340) rfl)) rfl
theorem wd_341 : (Cond.fieldLink "PriorityKernelModel" (35 : Nat) "PriorityKernelModel" "deadline" "[I") ∈ kn_T := kn_m (List.mem_append_right _ (List.mem_of_getElem? (i := 341) rfl)) rfl
theorem wd_342 : (Cond.fieldLink "PriorityKernelModel" (38 : Nat) "PriorityKernelModel" "result" "[I") ∈ kn_T := kn_m (List.mem_append_right _ (List.mem_of_getElem? (i := 342) rfl)) rfl
theorem wd_343 : (Cond.fieldLink "PriorityKernelModel" (41 : Nat) "PriorityKernelModel" "mind" "[I") ∈ kn_T := kn_m (List.mem_append_right _ (List.mem_of_getElem? (i := 343) rfl)) rfl
theorem wd_344 : (Cond.fieldLink "PriorityKernelModel" (44 : Nat) "PriorityKernelModel" "rank" "[I") ∈ kn_T := kn_m (List.mem_append_right _ (List.mem_of_getElem? (i := 344) rfl)) rfl
theorem wd_345 : (Cond.fieldLink "PriorityKernelModel" (47 : Nat) "PriorityKernelModel" "value" "[I") ∈ kn_T := kn_m (List.mem_append_right _ (List.mem_of_getElem? (i := 345) rfl)) rfl
theorem wd_346 : (Cond.fieldLink "PriorityKernelModel" (50 : Nat) "PriorityKernelModel" "sliced" "[Z") ∈ kn_T := kn_m (List.mem_append_right _ (List.mem_of_getElem? (i := 346) rfl)) rfl
theorem wd_347 : (Cond.fieldLink "PriorityKernelModel" (54 : Nat) "PriorityKernelModel" "retakes" "[Z") ∈ kn_T := kn_m (List.mem_append_right _ (List.mem_of_getElem? (i := 347) rfl)) rfl
theorem wd_348 : (Cond.fieldLink "PriorityKernelModel" (57 : Nat) "PriorityKernelModel" "owns" "[I") ∈ kn_T := kn_m (List.mem_append_right _ (List.mem_of_getElem? (i := 348) rfl)) rfl
theorem wd_349 : (Cond.fieldLink "PriorityKernelModel" (60 : Nat) "PriorityKernelModel" "count" "[I") ∈ kn_T := kn_m (List.mem_append_right _ (List.mem_of_getElem? (i := 349) rfl)) rfl
theorem wd_350 : (Cond.fieldLink "PriorityKernelModel" (63 : Nat) "PriorityKernelModel" "messages" "[I") ∈ kn_T := kn_m (List.mem_append_right _ (List.mem_of_getElem? (i := 350) rfl)) rfl
theorem wd_351 : (Cond.fieldLink "PriorityKernelModel" (66 : Nat) "PriorityKernelModel" "messageRank" "[I") ∈ kn_T := kn_m (List.mem_append_right _ (List.mem_of_getElem? (i := 351) rfl)) rfl
theorem wd_352 : (Cond.fieldLink "PriorityKernelModel" (69 : Nat) "PriorityKernelModel" "messageValue" "[I") ∈ kn_T := kn_m (List.mem_append_right _ (List.mem_of_getElem? (i := 352) rfl)) rfl
theorem wd_353 : (Cond.fieldLink "PriorityKernelModel" (72 : Nat) "PriorityKernelModel" "urgent" "[I") ∈ kn_T := kn_m (List.mem_append_right _ (List.mem_of_getElem? (i := 353) rfl)) rfl
set_option maxRecDepth 20000 in
theorem wd_401 : (Cond.arrayClass FieldType.boolean) ∈ kn_T := kn_m (List.mem_append_right _ (List.mem_of_getElem? (i := 401) rfl)) rfl
set_option maxRecDepth 20000 in
theorem wd_403 : (Cond.instanceMethod ({ cls := "PriorityKernelModel", name := "running", desc := "()I" } : MethodName)) ∈ kn_T := kn_m (List.mem_append_right _ (List.mem_of_getElem? (i := 403) rfl)) rfl
set_option maxRecDepth 20000 in
theorem wd_404 : (Cond.selects "PriorityKernelModel" ({ cls := "PriorityKernelModel", name := "running", desc := "()I" } : MethodName) ({ cls := "PriorityKernelModel", name := "running", desc := "()I" } : MethodName)) ∈ kn_T := kn_m (List.mem_append_right _ (List.mem_of_getElem? (i := 404) rfl)) rfl
set_option maxRecDepth 20000 in
theorem wd_405 : (Cond.code ({ cls := "PriorityKernelModel", name := "running", desc := "()I" } : MethodName) prog_5_method_7_code (3 : Nat) (Option.some FieldType.int)) ∈ kn_T := kn_m (List.mem_append_right _ (List.mem_of_getElem? (i := 405) rfl)) rfl
set_option maxRecDepth 20000 in
theorem wd_406 : (Cond.methodLink "PriorityKernelModel" (85 : Nat) ({ cls := "PriorityKernelModel", name := "weigh", desc := "()V" } : MethodName)) ∈ kn_T := kn_m (List.mem_append_right _ (List.mem_of_getElem? (i := 406) rfl)) rfl
set_option maxRecDepth 20000 in
theorem wd_408 : (Cond.instanceMethod ({ cls := "PriorityKernelModel", name := "weigh", desc := "()V" } : MethodName)) ∈ kn_T := kn_m (List.mem_append_right _ (List.mem_of_getElem? (i := 408) rfl)) rfl
set_option maxRecDepth 20000 in
theorem wd_409 : (Cond.code ({ cls := "PriorityKernelModel", name := "weigh", desc := "()V" } : MethodName) prog_5_method_6_code (4 : Nat) (Option.none : Option FieldType)) ∈ kn_T := kn_m (List.mem_append_right _ (List.mem_of_getElem? (i := 409) rfl)) rfl
set_option maxRecDepth 20000 in
theorem wd_414 : (Cond.methodLink "PriorityKernelModel" (92 : Nat) ({ cls := "PriorityKernelModel", name := "ready", desc := "(I)V" } : MethodName)) ∈ kn_T := kn_m (List.mem_append_right _ (List.mem_of_getElem? (i := 414) rfl)) rfl
set_option maxRecDepth 20000 in
theorem wd_416 : (Cond.instanceMethod ({ cls := "PriorityKernelModel", name := "ready", desc := "(I)V" } : MethodName)) ∈ kn_T := kn_m (List.mem_append_right _ (List.mem_of_getElem? (i := 416) rfl)) rfl
set_option maxRecDepth 20000 in
theorem wd_417 : (Cond.code ({ cls := "PriorityKernelModel", name := "ready", desc := "(I)V" } : MethodName) prog_5_method_4_code (2 : Nat) (Option.none : Option FieldType)) ∈ kn_T := kn_m (List.mem_append_right _ (List.mem_of_getElem? (i := 417) rfl)) rfl
set_option maxRecDepth 20000 in
theorem wd_418 : (Cond.methodLink "PriorityKernelModel" (81 : Nat) ({ cls := "PriorityKernelModel", name := "newStamp", desc := "()I" } : MethodName)) ∈ kn_T := kn_m (List.mem_append_right _ (List.mem_of_getElem? (i := 418) rfl)) rfl
set_option maxRecDepth 20000 in
theorem wd_420 : (Cond.instanceMethod ({ cls := "PriorityKernelModel", name := "newStamp", desc := "()I" } : MethodName)) ∈ kn_T := kn_m (List.mem_append_right _ (List.mem_of_getElem? (i := 420) rfl)) rfl
set_option maxRecDepth 20000 in
theorem wd_421 : (Cond.code ({ cls := "PriorityKernelModel", name := "newStamp", desc := "()I" } : MethodName) prog_5_method_3_code (1 : Nat) (Option.some FieldType.int)) ∈ kn_T := kn_m (List.mem_append_right _ (List.mem_of_getElem? (i := 421) rfl)) rfl
set_option maxRecDepth 20000 in
theorem wd_426 : (Cond.methodLink "PriorityKernelModel" (100 : Nat) ({ cls := "PriorityKernelModel", name := "out", desc := "(II)Z" } : MethodName)) ∈ kn_T := kn_m (List.mem_append_right _ (List.mem_of_getElem? (i := 426) rfl)) rfl
set_option maxRecDepth 20000 in
theorem wd_428 : (Cond.instanceMethod ({ cls := "PriorityKernelModel", name := "out", desc := "(II)Z" } : MethodName)) ∈ kn_T := kn_m (List.mem_append_right _ (List.mem_of_getElem? (i := 428) rfl)) rfl
set_option maxRecDepth 20000 in
theorem wd_429 : (Cond.code ({ cls := "PriorityKernelModel", name := "out", desc := "(II)Z" } : MethodName) prog_5_method_2_code (3 : Nat) (Option.some FieldType.boolean)) ∈ kn_T := kn_m (List.mem_append_right _ (List.mem_of_getElem? (i := 429) rfl)) rfl
set_option maxRecDepth 20000 in
theorem wd_434 : (Cond.methodLink "PriorityKernelModel" (104 : Nat) ({ cls := "PriorityKernelModel", name := "running", desc := "()I" } : MethodName)) ∈ kn_T := kn_m (List.mem_append_right _ (List.mem_of_getElem? (i := 434) rfl)) rfl
set_option maxRecDepth 20000 in
theorem wd_439 : (Cond.methodLink "PriorityKernelModel" (96 : Nat) ({ cls := "PriorityKernelModel", name := "block", desc := "(III)V" } : MethodName)) ∈ kn_T := kn_m (List.mem_append_right _ (List.mem_of_getElem? (i := 439) rfl)) rfl
set_option maxRecDepth 20000 in
theorem wd_441 : (Cond.instanceMethod ({ cls := "PriorityKernelModel", name := "block", desc := "(III)V" } : MethodName)) ∈ kn_T := kn_m (List.mem_append_right _ (List.mem_of_getElem? (i := 441) rfl)) rfl
set_option maxRecDepth 20000 in
theorem wd_442 : (Cond.code ({ cls := "PriorityKernelModel", name := "block", desc := "(III)V" } : MethodName) prog_5_method_5_code (4 : Nat) (Option.none : Option FieldType)) ∈ kn_T := kn_m (List.mem_append_right _ (List.mem_of_getElem? (i := 442) rfl)) rfl
set_option maxRecDepth 20000 in
theorem wd_447 : (Cond.methodLink "PriorityKernelModel" (107 : Nat) ({ cls := "PriorityKernelModel", name := "give", desc := "(I)V" } : MethodName)) ∈ kn_T := kn_m (List.mem_append_right _ (List.mem_of_getElem? (i := 447) rfl)) rfl
set_option maxRecDepth 20000 in
theorem wd_449 : (Cond.instanceMethod ({ cls := "PriorityKernelModel", name := "give", desc := "(I)V" } : MethodName)) ∈ kn_T := kn_m (List.mem_append_right _ (List.mem_of_getElem? (i := 449) rfl)) rfl
set_option maxRecDepth 20000 in
theorem wd_450 : (Cond.code ({ cls := "PriorityKernelModel", name := "give", desc := "(I)V" } : MethodName) prog_5_method_9_code (3 : Nat) (Option.none : Option FieldType)) ∈ kn_T := kn_m (List.mem_append_right _ (List.mem_of_getElem? (i := 450) rfl)) rfl
set_option maxRecDepth 20000 in
theorem wd_451 : (Cond.methodLink "PriorityKernelModel" (88 : Nat) ({ cls := "PriorityKernelModel", name := "firstWaiter", desc := "(I)I" } : MethodName)) ∈ kn_T := kn_m (List.mem_append_right _ (List.mem_of_getElem? (i := 451) rfl)) rfl
set_option maxRecDepth 20000 in
theorem wd_453 : (Cond.instanceMethod ({ cls := "PriorityKernelModel", name := "firstWaiter", desc := "(I)I" } : MethodName)) ∈ kn_T := kn_m (List.mem_append_right _ (List.mem_of_getElem? (i := 453) rfl)) rfl
set_option maxRecDepth 20000 in
theorem wd_454 : (Cond.code ({ cls := "PriorityKernelModel", name := "firstWaiter", desc := "(I)I" } : MethodName) prog_5_method_8_code (4 : Nat) (Option.some FieldType.int)) ∈ kn_T := kn_m (List.mem_append_right _ (List.mem_of_getElem? (i := 454) rfl)) rfl
set_option maxRecDepth 20000 in
theorem wd_463 : (Cond.methodLink "PriorityKernelModel" (110 : Nat) ({ cls := "PriorityKernelModel", name := "retake", desc := "(II)V" } : MethodName)) ∈ kn_T := kn_m (List.mem_append_right _ (List.mem_of_getElem? (i := 463) rfl)) rfl
set_option maxRecDepth 20000 in
theorem wd_465 : (Cond.instanceMethod ({ cls := "PriorityKernelModel", name := "retake", desc := "(II)V" } : MethodName)) ∈ kn_T := kn_m (List.mem_append_right _ (List.mem_of_getElem? (i := 465) rfl)) rfl
set_option maxRecDepth 20000 in
theorem wd_466 : (Cond.code ({ cls := "PriorityKernelModel", name := "retake", desc := "(II)V" } : MethodName) prog_5_method_10_code (4 : Nat) (Option.none : Option FieldType)) ∈ kn_T := kn_m (List.mem_append_right _ (List.mem_of_getElem? (i := 466) rfl)) rfl
set_option maxRecDepth 20000 in
theorem wd_479 : (Cond.methodLink "PriorityKernelModel" (114 : Nat) ({ cls := "PriorityKernelModel", name := "comeIn", desc := "(III)V" } : MethodName)) ∈ kn_T := kn_m (List.mem_append_right _ (List.mem_of_getElem? (i := 479) rfl)) rfl
set_option maxRecDepth 20000 in
theorem wd_481 : (Cond.instanceMethod ({ cls := "PriorityKernelModel", name := "comeIn", desc := "(III)V" } : MethodName)) ∈ kn_T := kn_m (List.mem_append_right _ (List.mem_of_getElem? (i := 481) rfl)) rfl
set_option maxRecDepth 20000 in
theorem wd_482 : (Cond.code ({ cls := "PriorityKernelModel", name := "comeIn", desc := "(III)V" } : MethodName) prog_5_method_20_code (5 : Nat) (Option.none : Option FieldType)) ∈ kn_T := kn_m (List.mem_append_right _ (List.mem_of_getElem? (i := 482) rfl)) rfl
set_option maxRecDepth 20000 in
theorem wd_503 : (Cond.methodLink "PriorityKernelModel" (117 : Nat) ({ cls := "PriorityKernelModel", name := "deadlineComes", desc := "(I)V" } : MethodName)) ∈ kn_T := kn_m (List.mem_append_right _ (List.mem_of_getElem? (i := 503) rfl)) rfl
set_option maxRecDepth 20000 in
theorem wd_505 : (Cond.instanceMethod ({ cls := "PriorityKernelModel", name := "deadlineComes", desc := "(I)V" } : MethodName)) ∈ kn_T := kn_m (List.mem_append_right _ (List.mem_of_getElem? (i := 505) rfl)) rfl
set_option maxRecDepth 20000 in
theorem wd_506 : (Cond.code ({ cls := "PriorityKernelModel", name := "deadlineComes", desc := "(I)V" } : MethodName) prog_5_method_26_code (2 : Nat) (Option.none : Option FieldType)) ∈ kn_T := kn_m (List.mem_append_right _ (List.mem_of_getElem? (i := 506) rfl)) rfl
set_option maxRecDepth 20000 in
theorem wd_511 : (Cond.constantLong "PriorityKernelModel" (120 : Nat) (1000000000000 : Int64)) ∈ kn_T := kn_m (List.mem_append_right _ (List.mem_of_getElem? (i := 511) rfl)) rfl
theorem gv_Q_22 {c0 : Cond} : GoodIn (c0 :: kn_T) (wsV R_Q 22 R_Q y_Q_isFull ws_Q_isFull) := kn_V wd_255 wd_244 wd_245 wd_4 wd_246
theorem gv_Q_26 {c0 : Cond} : GoodIn (c0 :: kn_T) (wsV R_Q 26 R_Q y_Q_isEmpty ws_Q_isEmpty) := kn_V wd_268 wd_261 wd_262 wd_4 wd_263
theorem gv_X_188 {c0 : Cond} : GoodIn (c0 :: kn_T) (wsV R_X 188 R_X y_X_heirOf ws_X_heirOf) := kn_V wd_172 wd_174 wp_6 wd_1 wd_175
theorem gv_X_185 {c0 : Cond} : GoodIn (c0 :: kn_T) (wsV R_X 185 R_X y_X_inheritOnce ws_X_inheritOnce) := kn_V wd_168 wd_170 wp_5 wd_1 wd_171
theorem gv_X_182 {c0 : Cond} : GoodIn (c0 :: kn_T) (wsV R_X 182 R_T y_T_isAheadOf ws_T_isAheadOf) := kn_V wd_176 wd_177 wd_178 wd_3 wd_179
theorem gv_X_160 {c0 : Cond} : GoodIn (c0 :: kn_T) (wsV R_X 160 R_X y_X_workOutEffective ws_X_workOutEffective) := kn_V wd_164 wd_166 wp_4 wd_1 wd_167
theorem gv_X_178 {c0 : Cond} : GoodIn (c0 :: kn_T) (wsV R_X 178 R_X y_X_foremost ws_X_foremost) := kn_V wd_160 wd_162 wp_3 wd_1 wd_163
theorem gv_X_70 {c0 : Cond} : GoodIn (c0 :: kn_T) (wsV R_X 70 R_X y_X_makeReady ws_X_makeReady) := kn_V wd_140 wd_142 wp_1 wd_1 wd_143
theorem gv_X_113 {c0 : Cond} : GoodIn (c0 :: kn_T) (wsV R_X 113 R_X y_X_block ws_X_block) := kn_V wd_196 wd_198 wp_10 wd_1 wd_199
theorem gv_X_195 {c0 : Cond} : GoodIn (c0 :: kn_T) (wsV R_X 195 R_X y_X_makeOwner ws_X_makeOwner) := kn_V wd_192 wd_194 wp_9 wd_1 wd_195
theorem gv_X_117 {c0 : Cond} : GoodIn (c0 :: kn_T) (wsV R_X 117 R_X y_X_firstWaiter ws_X_firstWaiter) := kn_V wd_208 wd_210 wp_12 wd_1 wd_211
theorem gv_X_97 {c0 : Cond} : GoodIn (c0 :: kn_T) (wsV R_X 97 R_X y_X_take ws_X_take) := kn_V wd_188 wd_190 wp_8 wd_1 wd_191
theorem gv_X_198 {c0 : Cond} : GoodIn (c0 :: kn_T) (wsV R_X 198 R_Q y_Q_insert ws_Q_insert) := kn_V wd_251 wd_252 wd_253 wd_4 wd_254
theorem gv_X_90 {c0 : Cond} : GoodIn (c0 :: kn_T) (wsV R_X 90 R_X y_X_startTurn ws_X_startTurn) := kn_V wd_180 wd_182 wp_7 wd_1 wd_183
theorem gs_X_77 {c0 : Cond} : GoodIn (c0 :: kn_T) (wsS R_X 77 y_X_isBelow ws_X_isBelow) := kn_S wd_149 wd_150 wd_1 wd_151
theorem gv_X_121 {c0 : Cond} : GoodIn (c0 :: kn_T) (wsV R_X 121 R_X y_X_endAwait ws_X_endAwait) := kn_V wd_227 wd_229 wp_14 wd_1 wd_230
theorem gv_X_205 {c0 : Cond} : GoodIn (c0 :: kn_T) (wsV R_X 205 R_X y_X_endWait ws_X_endWait) := kn_V wd_297 wd_299 wp_19 wd_1 wd_300
theorem gv_X_87 {c0 : Cond} : GoodIn (c0 :: kn_T) (wsV R_X 87 R_X y_X_runner ws_X_runner) := kn_V wd_156 wd_158 wp_2 wd_1 wd_159
theorem gv_X_202 {c0 : Cond} : GoodIn (c0 :: kn_T) (wsV R_X 202 R_X y_X_useTick ws_X_useTick) := kn_V wd_293 wd_295 wp_18 wd_1 wd_296
theorem gs_X_55 {c0 : Cond} : GoodIn (c0 :: kn_T) (wsS R_X 55 y_X_isPriority ws_X_isPriority) := kn_S wd_133 wd_134 wd_1 wd_135
theorem gv_X_59 {c0 : Cond} : GoodIn (c0 :: kn_T) (wsV R_X 59 R_X y_X_leastFree ws_X_leastFree) := kn_V wd_136 wd_138 wp_0 wd_1 wd_139
theorem gv_X_100 {c0 : Cond} : GoodIn (c0 :: kn_T) (wsV R_X 100 R_X y_X_give ws_X_give) := kn_V wd_204 wd_206 wp_11 wd_1 wd_207
theorem gs_X_103 {c0 : Cond} : GoodIn (c0 :: kn_T) (wsS R_X 103 y_X_isTimeout ws_X_isTimeout) := kn_S wd_216 wd_217 wd_1 wd_218
theorem gv_X_109 {c0 : Cond} : GoodIn (c0 :: kn_T) (wsV R_X 109 R_X y_X_deadlineAfter ws_X_deadlineAfter) := kn_V wd_219 wd_221 wp_13 wd_1 wd_222
theorem gv_X_127 {c0 : Cond} : GoodIn (c0 :: kn_T) (wsV R_X 127 R_Q y_Q_isFull ws_Q_isFull) := kn_V wd_243 wd_244 wd_245 wd_4 wd_246
theorem gv_X_139 {c0 : Cond} : GoodIn (c0 :: kn_T) (wsV R_X 139 R_X y_X_arrive ws_X_arrive) := kn_V wd_247 wd_249 wp_15 wd_1 wd_250
theorem gv_X_143 {c0 : Cond} : GoodIn (c0 :: kn_T) (wsV R_X 143 R_Q y_Q_isEmpty ws_Q_isEmpty) := kn_V wd_260 wd_261 wd_262 wd_4 wd_263
theorem gv_X_146 {c0 : Cond} : GoodIn (c0 :: kn_T) (wsV R_X 146 R_Q y_Q_removeFirst ws_Q_removeFirst) := kn_V wd_264 wd_265 wd_266 wd_4 wd_267
theorem gv_X_150 {c0 : Cond} : GoodIn (c0 :: kn_T) (wsV R_X 150 R_X y_X_ownsAny ws_X_ownsAny) := kn_V wd_281 wd_283 wp_16 wd_1 wd_284
theorem gv_X_157 {c0 : Cond} : GoodIn (c0 :: kn_T) (wsV R_X 157 R_X y_X_running ws_X_running) := kn_V wd_301 wd_302 wd_303 wd_1 wd_304
theorem gv_X_154 {c0 : Cond} : GoodIn (c0 :: kn_T) (wsV R_X 154 R_X y_X_tickOnce ws_X_tickOnce) := kn_V wd_289 wd_291 wp_17 wd_1 wd_292
theorem gv_X_175 {c0 : Cond} : GoodIn (c0 :: kn_T) (wsV R_X 175 R_X y_X_readyThreads ws_X_readyThreads) := kn_V wd_318 wd_320 wp_20 wd_1 wd_321
theorem gv_M_81 {c0 : Cond} : GoodIn (c0 :: kn_T) (wsV R_M 81 R_M y_M_newStamp ws_M_newStamp) := kn_V wd_418 wd_420 wp_23 wd_5 wd_421
theorem gv_M_85 {c0 : Cond} : GoodIn (c0 :: kn_T) (wsV R_M 85 R_M y_M_weigh ws_M_weigh) := kn_V wd_406 wd_408 wp_21 wd_5 wd_409
theorem gv_M_88 {c0 : Cond} : GoodIn (c0 :: kn_T) (wsV R_M 88 R_M y_M_firstWaiter ws_M_firstWaiter) := kn_V wd_451 wd_453 wp_27 wd_5 wd_454
theorem gv_M_92 {c0 : Cond} : GoodIn (c0 :: kn_T) (wsV R_M 92 R_M y_M_ready ws_M_ready) := kn_V wd_414 wd_416 wp_22 wd_5 wd_417
theorem gv_M_96 {c0 : Cond} : GoodIn (c0 :: kn_T) (wsV R_M 96 R_M y_M_block ws_M_block) := kn_V wd_439 wd_441 wp_25 wd_5 wd_442
theorem gv_M_100 {c0 : Cond} : GoodIn (c0 :: kn_T) (wsV R_M 100 R_M y_M_out ws_M_out) := kn_V wd_426 wd_428 wp_24 wd_5 wd_429
theorem gv_M_104 {c0 : Cond} : GoodIn (c0 :: kn_T) (wsV R_M 104 R_M y_M_running ws_M_running) := kn_V wd_434 wd_403 wd_404 wd_5 wd_405
theorem gv_M_107 {c0 : Cond} : GoodIn (c0 :: kn_T) (wsV R_M 107 R_M y_M_give ws_M_give) := kn_V wd_447 wd_449 wp_26 wd_5 wd_450
theorem gv_M_110 {c0 : Cond} : GoodIn (c0 :: kn_T) (wsV R_M 110 R_M y_M_retake ws_M_retake) := kn_V wd_463 wd_465 wp_28 wd_5 wd_466
theorem gv_M_114 {c0 : Cond} : GoodIn (c0 :: kn_T) (wsV R_M 114 R_M y_M_comeIn ws_M_comeIn) := kn_V wd_479 wd_481 wp_29 wd_5 wd_482
theorem gv_M_117 {c0 : Cond} : GoodIn (c0 :: kn_T) (wsV R_M 117 R_M y_M_deadlineComes ws_M_deadlineComes) := kn_V wd_503 wd_505 wp_30 wd_5 wd_506
end
section
theorem dX_isBelow_0 : decode b_X_isBelow 0 = .ok (.iload_n 0, 1) := by decide +kernel
theorem dX_isBelow_1 : decode b_X_isBelow 1 = .ok (.ifCond .lt 12, 3) := by decide +kernel
theorem dX_isBelow_4 : decode b_X_isBelow 4 = .ok (.iload_n 0, 1) := by decide +kernel
theorem dX_isBelow_5 : decode b_X_isBelow 5 = .ok (.iload_n 1, 1) := by decide +kernel
theorem dX_isBelow_6 : decode b_X_isBelow 6 = .ok (.if_icmp .ge 7, 3) := by decide +kernel
theorem dX_isBelow_9 : decode b_X_isBelow 9 = .ok (.iconst 1, 1) := by decide +kernel
theorem dX_isBelow_10 : decode b_X_isBelow 10 = .ok (.goto 4, 3) := by decide +kernel
theorem dX_isBelow_13 : decode b_X_isBelow 13 = .ok (.iconst 0, 1) := by decide +kernel
theorem dX_isBelow_14 : decode b_X_isBelow 14 = .ok (.ireturn, 1) := by decide +kernel
theorem dX_isPriority_0 : decode b_X_isPriority 0 = .ok (.iload_n 0, 1) := by decide +kernel
theorem dX_isPriority_1 : decode b_X_isPriority 1 = .ok (.iconst 1, 1) := by decide +kernel
theorem dX_isPriority_2 : decode b_X_isPriority 2 = .ok (.if_icmp .lt 13, 3) := by decide +kernel
theorem dX_isPriority_5 : decode b_X_isPriority 5 = .ok (.iload_n 0, 1) := by decide +kernel
theorem dX_isPriority_6 : decode b_X_isPriority 6 = .ok (.bipush 31, 2) := by decide +kernel
theorem dX_isPriority_8 : decode b_X_isPriority 8 = .ok (.if_icmp .gt 7, 3) := by decide +kernel
theorem dX_isPriority_11 : decode b_X_isPriority 11 = .ok (.iconst 1, 1) := by decide +kernel
theorem dX_isPriority_12 : decode b_X_isPriority 12 = .ok (.goto 4, 3) := by decide +kernel
theorem dX_isPriority_15 : decode b_X_isPriority 15 = .ok (.iconst 0, 1) := by decide +kernel
theorem dX_isPriority_16 : decode b_X_isPriority 16 = .ok (.ireturn, 1) := by decide +kernel
theorem dX_isTimeout_0 : decode b_X_isTimeout 0 = .ok (.iload_n 0, 1) := by decide +kernel
theorem dX_isTimeout_1 : decode b_X_isTimeout 1 = .ok (.ifCond .lt 14, 3) := by decide +kernel
theorem dX_isTimeout_4 : decode b_X_isTimeout 4 = .ok (.iload_n 0, 1) := by decide +kernel
theorem dX_isTimeout_5 : decode b_X_isTimeout 5 = .ok (.sipush 1000, 3) := by decide +kernel
theorem dX_isTimeout_8 : decode b_X_isTimeout 8 = .ok (.if_icmp .gt 7, 3) := by decide +kernel
theorem dX_isTimeout_11 : decode b_X_isTimeout 11 = .ok (.iconst 1, 1) := by decide +kernel
theorem dX_isTimeout_12 : decode b_X_isTimeout 12 = .ok (.goto 4, 3) := by decide +kernel
theorem dX_isTimeout_15 : decode b_X_isTimeout 15 = .ok (.iconst 0, 1) := by decide +kernel
theorem dX_isTimeout_16 : decode b_X_isTimeout 16 = .ok (.ireturn, 1) := by decide +kernel
theorem dT_isAheadOf_0 : decode b_T_isAheadOf 0 = .ok (.aload_n 0, 1) := by decide +kernel
theorem dT_isAheadOf_1 : decode b_T_isAheadOf 1 = .ok (.getfield 18, 3) := by decide +kernel
theorem dT_isAheadOf_4 : decode b_T_isAheadOf 4 = .ok (.aload_n 1, 1) := by decide +kernel
theorem dT_isAheadOf_5 : decode b_T_isAheadOf 5 = .ok (.getfield 18, 3) := by decide +kernel
theorem dT_isAheadOf_8 : decode b_T_isAheadOf 8 = .ok (.if_icmp .gt 26, 3) := by decide +kernel
theorem dT_isAheadOf_11 : decode b_T_isAheadOf 11 = .ok (.aload_n 0, 1) := by decide +kernel
theorem dT_isAheadOf_12 : decode b_T_isAheadOf 12 = .ok (.getfield 18, 3) := by decide +kernel
theorem dT_isAheadOf_15 : decode b_T_isAheadOf 15 = .ok (.aload_n 1, 1) := by decide +kernel
theorem dT_isAheadOf_16 : decode b_T_isAheadOf 16 = .ok (.getfield 18, 3) := by decide +kernel
theorem dT_isAheadOf_19 : decode b_T_isAheadOf 19 = .ok (.if_icmp .ne 19, 3) := by decide +kernel
theorem dT_isAheadOf_22 : decode b_T_isAheadOf 22 = .ok (.aload_n 0, 1) := by decide +kernel
theorem dT_isAheadOf_23 : decode b_T_isAheadOf 23 = .ok (.getfield 31, 3) := by decide +kernel
theorem dT_isAheadOf_26 : decode b_T_isAheadOf 26 = .ok (.aload_n 1, 1) := by decide +kernel
theorem dT_isAheadOf_27 : decode b_T_isAheadOf 27 = .ok (.getfield 31, 3) := by decide +kernel
theorem dT_isAheadOf_30 : decode b_T_isAheadOf 30 = .ok (.lcmp, 1) := by decide +kernel
theorem dT_isAheadOf_31 : decode b_T_isAheadOf 31 = .ok (.ifCond .ge 7, 3) := by decide +kernel
theorem dT_isAheadOf_34 : decode b_T_isAheadOf 34 = .ok (.iconst 1, 1) := by decide +kernel
theorem dT_isAheadOf_35 : decode b_T_isAheadOf 35 = .ok (.goto 4, 3) := by decide +kernel
theorem dT_isAheadOf_38 : decode b_T_isAheadOf 38 = .ok (.iconst 0, 1) := by decide +kernel
theorem dT_isAheadOf_39 : decode b_T_isAheadOf 39 = .ok (.ireturn, 1) := by decide +kernel
theorem dQ_isEmpty_0 : decode b_Q_isEmpty 0 = .ok (.aload_n 0, 1) := by decide +kernel
theorem dQ_isEmpty_1 : decode b_Q_isEmpty 1 = .ok (.getfield 18, 3) := by decide +kernel
theorem dQ_isEmpty_4 : decode b_Q_isEmpty 4 = .ok (.ifCond .ne 7, 3) := by decide +kernel
theorem dQ_isEmpty_7 : decode b_Q_isEmpty 7 = .ok (.iconst 1, 1) := by decide +kernel
theorem dQ_isEmpty_8 : decode b_Q_isEmpty 8 = .ok (.goto 4, 3) := by decide +kernel
theorem dQ_isEmpty_11 : decode b_Q_isEmpty 11 = .ok (.iconst 0, 1) := by decide +kernel
theorem dQ_isEmpty_12 : decode b_Q_isEmpty 12 = .ok (.ireturn, 1) := by decide +kernel
theorem dQ_isFull_0 : decode b_Q_isFull 0 = .ok (.aload_n 0, 1) := by decide +kernel
theorem dQ_isFull_1 : decode b_Q_isFull 1 = .ok (.getfield 18, 3) := by decide +kernel
theorem dQ_isFull_4 : decode b_Q_isFull 4 = .ok (.iconst 4, 1) := by decide +kernel
theorem dQ_isFull_5 : decode b_Q_isFull 5 = .ok (.if_icmp .ne 7, 3) := by decide +kernel
theorem dQ_isFull_8 : decode b_Q_isFull 8 = .ok (.iconst 1, 1) := by decide +kernel
theorem dQ_isFull_9 : decode b_Q_isFull 9 = .ok (.goto 4, 3) := by decide +kernel
theorem dQ_isFull_12 : decode b_Q_isFull 12 = .ok (.iconst 0, 1) := by decide +kernel
theorem dQ_isFull_13 : decode b_Q_isFull 13 = .ok (.ireturn, 1) := by decide +kernel
theorem dQ_insert_0 : decode b_Q_insert 0 = .ok (.aload_n 0, 1) := by decide +kernel
theorem dQ_insert_1 : decode b_Q_insert 1 = .ok (.invokevirtual 22, 3) := by decide +kernel
theorem dQ_insert_4 : decode b_Q_insert 4 = .ok (.ifCond .eq 4, 3) := by decide +kernel
theorem dQ_insert_7 : decode b_Q_insert 7 = .ok (.return_, 1) := by decide +kernel
theorem dQ_insert_8 : decode b_Q_insert 8 = .ok (.aload_n 0, 1) := by decide +kernel
theorem dQ_insert_9 : decode b_Q_insert 9 = .ok (.getfield 18, 3) := by decide +kernel
theorem dQ_insert_12 : decode b_Q_insert 12 = .ok (.istore_n 3, 1) := by decide +kernel
theorem dQ_insert_13 : decode b_Q_insert 13 = .ok (.iload_n 3, 1) := by decide +kernel
theorem dQ_insert_14 : decode b_Q_insert 14 = .ok (.ifCond .le 49, 3) := by decide +kernel
theorem dQ_insert_17 : decode b_Q_insert 17 = .ok (.aload_n 0, 1) := by decide +kernel
theorem dQ_insert_18 : decode b_Q_insert 18 = .ok (.getfield 9, 3) := by decide +kernel
theorem dQ_insert_21 : decode b_Q_insert 21 = .ok (.iload_n 3, 1) := by decide +kernel
theorem dQ_insert_22 : decode b_Q_insert 22 = .ok (.iconst 1, 1) := by decide +kernel
theorem dQ_insert_23 : decode b_Q_insert 23 = .ok (.isub, 1) := by decide +kernel
theorem dQ_insert_24 : decode b_Q_insert 24 = .ok (.iaload, 1) := by decide +kernel
theorem dQ_insert_25 : decode b_Q_insert 25 = .ok (.iload_n 1, 1) := by decide +kernel
theorem dQ_insert_26 : decode b_Q_insert 26 = .ok (.if_icmp .ge 37, 3) := by decide +kernel
theorem dQ_insert_29 : decode b_Q_insert 29 = .ok (.aload_n 0, 1) := by decide +kernel
theorem dQ_insert_30 : decode b_Q_insert 30 = .ok (.getfield 9, 3) := by decide +kernel
theorem dQ_insert_33 : decode b_Q_insert 33 = .ok (.iload_n 3, 1) := by decide +kernel
theorem dQ_insert_34 : decode b_Q_insert 34 = .ok (.aload_n 0, 1) := by decide +kernel
theorem dQ_insert_35 : decode b_Q_insert 35 = .ok (.getfield 9, 3) := by decide +kernel
theorem dQ_insert_38 : decode b_Q_insert 38 = .ok (.iload_n 3, 1) := by decide +kernel
theorem dQ_insert_39 : decode b_Q_insert 39 = .ok (.iconst 1, 1) := by decide +kernel
theorem dQ_insert_40 : decode b_Q_insert 40 = .ok (.isub, 1) := by decide +kernel
theorem dQ_insert_41 : decode b_Q_insert 41 = .ok (.iaload, 1) := by decide +kernel
theorem dQ_insert_42 : decode b_Q_insert 42 = .ok (.iastore, 1) := by decide +kernel
theorem dQ_insert_43 : decode b_Q_insert 43 = .ok (.aload_n 0, 1) := by decide +kernel
theorem dQ_insert_44 : decode b_Q_insert 44 = .ok (.getfield 15, 3) := by decide +kernel
theorem dQ_insert_47 : decode b_Q_insert 47 = .ok (.iload_n 3, 1) := by decide +kernel
theorem dQ_insert_48 : decode b_Q_insert 48 = .ok (.aload_n 0, 1) := by decide +kernel
theorem dQ_insert_49 : decode b_Q_insert 49 = .ok (.getfield 15, 3) := by decide +kernel
theorem dQ_insert_52 : decode b_Q_insert 52 = .ok (.iload_n 3, 1) := by decide +kernel
theorem dQ_insert_53 : decode b_Q_insert 53 = .ok (.iconst 1, 1) := by decide +kernel
theorem dQ_insert_54 : decode b_Q_insert 54 = .ok (.isub, 1) := by decide +kernel
theorem dQ_insert_55 : decode b_Q_insert 55 = .ok (.iaload, 1) := by decide +kernel
theorem dQ_insert_56 : decode b_Q_insert 56 = .ok (.iastore, 1) := by decide +kernel
theorem dQ_insert_57 : decode b_Q_insert 57 = .ok (.iinc 3 (-1), 3) := by decide +kernel
theorem dQ_insert_60 : decode b_Q_insert 60 = .ok (.goto (-47), 3) := by decide +kernel
theorem dQ_insert_63 : decode b_Q_insert 63 = .ok (.aload_n 0, 1) := by decide +kernel
theorem dQ_insert_64 : decode b_Q_insert 64 = .ok (.getfield 9, 3) := by decide +kernel
theorem dQ_insert_67 : decode b_Q_insert 67 = .ok (.iload_n 3, 1) := by decide +kernel
theorem dQ_insert_68 : decode b_Q_insert 68 = .ok (.iload_n 1, 1) := by decide +kernel
theorem dQ_insert_69 : decode b_Q_insert 69 = .ok (.iastore, 1) := by decide +kernel
theorem dQ_insert_70 : decode b_Q_insert 70 = .ok (.aload_n 0, 1) := by decide +kernel
theorem dQ_insert_71 : decode b_Q_insert 71 = .ok (.getfield 15, 3) := by decide +kernel
theorem dQ_insert_74 : decode b_Q_insert 74 = .ok (.iload_n 3, 1) := by decide +kernel
theorem dQ_insert_75 : decode b_Q_insert 75 = .ok (.iload_n 2, 1) := by decide +kernel
theorem dQ_insert_76 : decode b_Q_insert 76 = .ok (.iastore, 1) := by decide +kernel
theorem dQ_insert_77 : decode b_Q_insert 77 = .ok (.aload_n 0, 1) := by decide +kernel
theorem dQ_insert_78 : decode b_Q_insert 78 = .ok (.dup, 1) := by decide +kernel
theorem dQ_insert_79 : decode b_Q_insert 79 = .ok (.getfield 18, 3) := by decide +kernel
theorem dQ_insert_82 : decode b_Q_insert 82 = .ok (.iconst 1, 1) := by decide +kernel
theorem dQ_insert_83 : decode b_Q_insert 83 = .ok (.iadd, 1) := by decide +kernel
theorem dQ_insert_84 : decode b_Q_insert 84 = .ok (.putfield 18, 3) := by decide +kernel
theorem dQ_insert_87 : decode b_Q_insert 87 = .ok (.return_, 1) := by decide +kernel
theorem dQ_removeFirst_0 : decode b_Q_removeFirst 0 = .ok (.aload_n 0, 1) := by decide +kernel
theorem dQ_removeFirst_1 : decode b_Q_removeFirst 1 = .ok (.invokevirtual 26, 3) := by decide +kernel
theorem dQ_removeFirst_4 : decode b_Q_removeFirst 4 = .ok (.ifCond .eq 5, 3) := by decide +kernel
theorem dQ_removeFirst_7 : decode b_Q_removeFirst 7 = .ok (.iconst 0, 1) := by decide +kernel
theorem dQ_removeFirst_8 : decode b_Q_removeFirst 8 = .ok (.ireturn, 1) := by decide +kernel
theorem dQ_removeFirst_9 : decode b_Q_removeFirst 9 = .ok (.aload_n 0, 1) := by decide +kernel
theorem dQ_removeFirst_10 : decode b_Q_removeFirst 10 = .ok (.getfield 15, 3) := by decide +kernel
theorem dQ_removeFirst_13 : decode b_Q_removeFirst 13 = .ok (.iconst 0, 1) := by decide +kernel
theorem dQ_removeFirst_14 : decode b_Q_removeFirst 14 = .ok (.iaload, 1) := by decide +kernel
theorem dQ_removeFirst_15 : decode b_Q_removeFirst 15 = .ok (.istore_n 1, 1) := by decide +kernel
theorem dQ_removeFirst_16 : decode b_Q_removeFirst 16 = .ok (.aload_n 0, 1) := by decide +kernel
theorem dQ_removeFirst_17 : decode b_Q_removeFirst 17 = .ok (.dup, 1) := by decide +kernel
theorem dQ_removeFirst_18 : decode b_Q_removeFirst 18 = .ok (.getfield 18, 3) := by decide +kernel
theorem dQ_removeFirst_21 : decode b_Q_removeFirst 21 = .ok (.iconst 1, 1) := by decide +kernel
theorem dQ_removeFirst_22 : decode b_Q_removeFirst 22 = .ok (.isub, 1) := by decide +kernel
theorem dQ_removeFirst_23 : decode b_Q_removeFirst 23 = .ok (.putfield 18, 3) := by decide +kernel
theorem dQ_removeFirst_26 : decode b_Q_removeFirst 26 = .ok (.iconst 0, 1) := by decide +kernel
theorem dQ_removeFirst_27 : decode b_Q_removeFirst 27 = .ok (.istore_n 2, 1) := by decide +kernel
theorem dQ_removeFirst_28 : decode b_Q_removeFirst 28 = .ok (.iload_n 2, 1) := by decide +kernel
theorem dQ_removeFirst_29 : decode b_Q_removeFirst 29 = .ok (.aload_n 0, 1) := by decide +kernel
theorem dQ_removeFirst_30 : decode b_Q_removeFirst 30 = .ok (.getfield 18, 3) := by decide +kernel
theorem dQ_removeFirst_33 : decode b_Q_removeFirst 33 = .ok (.if_icmp .ge 37, 3) := by decide +kernel
theorem dQ_removeFirst_36 : decode b_Q_removeFirst 36 = .ok (.aload_n 0, 1) := by decide +kernel
theorem dQ_removeFirst_37 : decode b_Q_removeFirst 37 = .ok (.getfield 9, 3) := by decide +kernel
theorem dQ_removeFirst_40 : decode b_Q_removeFirst 40 = .ok (.iload_n 2, 1) := by decide +kernel
theorem dQ_removeFirst_41 : decode b_Q_removeFirst 41 = .ok (.aload_n 0, 1) := by decide +kernel
theorem dQ_removeFirst_42 : decode b_Q_removeFirst 42 = .ok (.getfield 9, 3) := by decide +kernel
theorem dQ_removeFirst_45 : decode b_Q_removeFirst 45 = .ok (.iload_n 2, 1) := by decide +kernel
theorem dQ_removeFirst_46 : decode b_Q_removeFirst 46 = .ok (.iconst 1, 1) := by decide +kernel
theorem dQ_removeFirst_47 : decode b_Q_removeFirst 47 = .ok (.iadd, 1) := by decide +kernel
theorem dQ_removeFirst_48 : decode b_Q_removeFirst 48 = .ok (.iaload, 1) := by decide +kernel
theorem dQ_removeFirst_49 : decode b_Q_removeFirst 49 = .ok (.iastore, 1) := by decide +kernel
theorem dQ_removeFirst_50 : decode b_Q_removeFirst 50 = .ok (.aload_n 0, 1) := by decide +kernel
theorem dQ_removeFirst_51 : decode b_Q_removeFirst 51 = .ok (.getfield 15, 3) := by decide +kernel
theorem dQ_removeFirst_54 : decode b_Q_removeFirst 54 = .ok (.iload_n 2, 1) := by decide +kernel
theorem dQ_removeFirst_55 : decode b_Q_removeFirst 55 = .ok (.aload_n 0, 1) := by decide +kernel
theorem dQ_removeFirst_56 : decode b_Q_removeFirst 56 = .ok (.getfield 15, 3) := by decide +kernel
theorem dQ_removeFirst_59 : decode b_Q_removeFirst 59 = .ok (.iload_n 2, 1) := by decide +kernel
theorem dQ_removeFirst_60 : decode b_Q_removeFirst 60 = .ok (.iconst 1, 1) := by decide +kernel
theorem dQ_removeFirst_61 : decode b_Q_removeFirst 61 = .ok (.iadd, 1) := by decide +kernel
theorem dQ_removeFirst_62 : decode b_Q_removeFirst 62 = .ok (.iaload, 1) := by decide +kernel
theorem dQ_removeFirst_63 : decode b_Q_removeFirst 63 = .ok (.iastore, 1) := by decide +kernel
theorem dQ_removeFirst_64 : decode b_Q_removeFirst 64 = .ok (.iinc 2 1, 3) := by decide +kernel
theorem dQ_removeFirst_67 : decode b_Q_removeFirst 67 = .ok (.goto (-39), 3) := by decide +kernel
theorem dQ_removeFirst_70 : decode b_Q_removeFirst 70 = .ok (.iload_n 1, 1) := by decide +kernel
theorem dQ_removeFirst_71 : decode b_Q_removeFirst 71 = .ok (.ireturn, 1) := by decide +kernel
theorem dX_deadlineAfter_0 : decode b_X_deadlineAfter 0 = .ok (.iload_n 1, 1) := by decide +kernel
theorem dX_deadlineAfter_1 : decode b_X_deadlineAfter 1 = .ok (.ifCond .ne 9, 3) := by decide +kernel
theorem dX_deadlineAfter_4 : decode b_X_deadlineAfter 4 = .ok (.ldc2_w 137, 3) := by decide +kernel
theorem dX_deadlineAfter_7 : decode b_X_deadlineAfter 7 = .ok (.goto 11, 3) := by decide +kernel
theorem dX_deadlineAfter_10 : decode b_X_deadlineAfter 10 = .ok (.aload_n 0, 1) := by decide +kernel
theorem dX_deadlineAfter_11 : decode b_X_deadlineAfter 11 = .ok (.getfield 28, 3) := by decide +kernel
theorem dX_deadlineAfter_14 : decode b_X_deadlineAfter 14 = .ok (.i2l, 1) := by decide +kernel
theorem dX_deadlineAfter_15 : decode b_X_deadlineAfter 15 = .ok (.iload_n 1, 1) := by decide +kernel
theorem dX_deadlineAfter_16 : decode b_X_deadlineAfter 16 = .ok (.i2l, 1) := by decide +kernel
theorem dX_deadlineAfter_17 : decode b_X_deadlineAfter 17 = .ok (.ladd, 1) := by decide +kernel
theorem dX_deadlineAfter_18 : decode b_X_deadlineAfter 18 = .ok (.lreturn, 1) := by decide +kernel
theorem dX_heirOf_0 : decode b_X_heirOf 0 = .ok (.iconst 1, 1) := by decide +kernel
theorem dX_heirOf_1 : decode b_X_heirOf 1 = .ok (.istore_n 2, 1) := by decide +kernel
theorem dX_heirOf_2 : decode b_X_heirOf 2 = .ok (.iload_n 2, 1) := by decide +kernel
theorem dX_heirOf_3 : decode b_X_heirOf 3 = .ok (.iconst 2, 1) := by decide +kernel
theorem dX_heirOf_4 : decode b_X_heirOf 4 = .ok (.if_icmp .gt 27, 3) := by decide +kernel
theorem dX_heirOf_7 : decode b_X_heirOf 7 = .ok (.aload_n 1, 1) := by decide +kernel
theorem dX_heirOf_8 : decode b_X_heirOf 8 = .ok (.getfield 166, 3) := by decide +kernel
theorem dX_heirOf_11 : decode b_X_heirOf 11 = .ok (.bipush 10, 2) := by decide +kernel
theorem dX_heirOf_13 : decode b_X_heirOf 13 = .ok (.iload_n 2, 1) := by decide +kernel
theorem dX_heirOf_14 : decode b_X_heirOf 14 = .ok (.iadd, 1) := by decide +kernel
theorem dX_heirOf_15 : decode b_X_heirOf 15 = .ok (.if_icmp .ne 10, 3) := by decide +kernel
theorem dX_heirOf_18 : decode b_X_heirOf 18 = .ok (.aload_n 0, 1) := by decide +kernel
theorem dX_heirOf_19 : decode b_X_heirOf 19 = .ok (.getfield 15, 3) := by decide +kernel
theorem dX_heirOf_22 : decode b_X_heirOf 22 = .ok (.iload_n 2, 1) := by decide +kernel
theorem dX_heirOf_23 : decode b_X_heirOf 23 = .ok (.iaload, 1) := by decide +kernel
theorem dX_heirOf_24 : decode b_X_heirOf 24 = .ok (.ireturn, 1) := by decide +kernel
theorem dX_heirOf_25 : decode b_X_heirOf 25 = .ok (.iinc 2 1, 3) := by decide +kernel
theorem dX_heirOf_28 : decode b_X_heirOf 28 = .ok (.goto (-26), 3) := by decide +kernel
theorem dX_heirOf_31 : decode b_X_heirOf 31 = .ok (.iconst (-1), 1) := by decide +kernel
theorem dX_heirOf_32 : decode b_X_heirOf 32 = .ok (.ireturn, 1) := by decide +kernel
theorem dX_inheritOnce_0 : decode b_X_inheritOnce 0 = .ok (.iconst 0, 1) := by decide +kernel
theorem dX_inheritOnce_1 : decode b_X_inheritOnce 1 = .ok (.istore_n 1, 1) := by decide +kernel
theorem dX_inheritOnce_2 : decode b_X_inheritOnce 2 = .ok (.aload_n 0, 1) := by decide +kernel
theorem dX_inheritOnce_3 : decode b_X_inheritOnce 3 = .ok (.getfield 11, 3) := by decide +kernel
theorem dX_inheritOnce_6 : decode b_X_inheritOnce 6 = .ok (.astore_n 2, 1) := by decide +kernel
theorem dX_inheritOnce_7 : decode b_X_inheritOnce 7 = .ok (.aload_n 2, 1) := by decide +kernel
theorem dX_inheritOnce_8 : decode b_X_inheritOnce 8 = .ok (.arraylength, 1) := by decide +kernel
theorem dX_inheritOnce_9 : decode b_X_inheritOnce 9 = .ok (.istore_n 3, 1) := by decide +kernel
theorem dX_inheritOnce_10 : decode b_X_inheritOnce 10 = .ok (.iconst 0, 1) := by decide +kernel
theorem dX_inheritOnce_11 : decode b_X_inheritOnce 11 = .ok (.istore 4, 2) := by decide +kernel
theorem dX_inheritOnce_13 : decode b_X_inheritOnce 13 = .ok (.iload 4, 2) := by decide +kernel
theorem dX_inheritOnce_15 : decode b_X_inheritOnce 15 = .ok (.iload_n 3, 1) := by decide +kernel
theorem dX_inheritOnce_16 : decode b_X_inheritOnce 16 = .ok (.if_icmp .ge 64, 3) := by decide +kernel
theorem dX_inheritOnce_19 : decode b_X_inheritOnce 19 = .ok (.aload_n 2, 1) := by decide +kernel
theorem dX_inheritOnce_20 : decode b_X_inheritOnce 20 = .ok (.iload 4, 2) := by decide +kernel
theorem dX_inheritOnce_22 : decode b_X_inheritOnce 22 = .ok (.aaload, 1) := by decide +kernel
theorem dX_inheritOnce_23 : decode b_X_inheritOnce 23 = .ok (.astore 5, 2) := by decide +kernel
theorem dX_inheritOnce_25 : decode b_X_inheritOnce 25 = .ok (.aload_n 0, 1) := by decide +kernel
theorem dX_inheritOnce_26 : decode b_X_inheritOnce 26 = .ok (.aload 5, 2) := by decide +kernel
theorem dX_inheritOnce_28 : decode b_X_inheritOnce 28 = .ok (.invokevirtual 188, 3) := by decide +kernel
theorem dX_inheritOnce_31 : decode b_X_inheritOnce 31 = .ok (.istore 6, 2) := by decide +kernel
theorem dX_inheritOnce_33 : decode b_X_inheritOnce 33 = .ok (.iload 6, 2) := by decide +kernel
theorem dX_inheritOnce_35 : decode b_X_inheritOnce 35 = .ok (.iconst (-1), 1) := by decide +kernel
theorem dX_inheritOnce_36 : decode b_X_inheritOnce 36 = .ok (.if_icmp .eq 38, 3) := by decide +kernel
theorem dX_inheritOnce_39 : decode b_X_inheritOnce 39 = .ok (.aload_n 0, 1) := by decide +kernel
theorem dX_inheritOnce_40 : decode b_X_inheritOnce 40 = .ok (.getfield 11, 3) := by decide +kernel
theorem dX_inheritOnce_43 : decode b_X_inheritOnce 43 = .ok (.iload 6, 2) := by decide +kernel
theorem dX_inheritOnce_45 : decode b_X_inheritOnce 45 = .ok (.aaload, 1) := by decide +kernel
theorem dX_inheritOnce_46 : decode b_X_inheritOnce 46 = .ok (.getfield 163, 3) := by decide +kernel
theorem dX_inheritOnce_49 : decode b_X_inheritOnce 49 = .ok (.aload 5, 2) := by decide +kernel
theorem dX_inheritOnce_51 : decode b_X_inheritOnce 51 = .ok (.getfield 163, 3) := by decide +kernel
theorem dX_inheritOnce_54 : decode b_X_inheritOnce 54 = .ok (.if_icmp .ge 20, 3) := by decide +kernel
theorem dX_inheritOnce_57 : decode b_X_inheritOnce 57 = .ok (.aload_n 0, 1) := by decide +kernel
theorem dX_inheritOnce_58 : decode b_X_inheritOnce 58 = .ok (.getfield 11, 3) := by decide +kernel
theorem dX_inheritOnce_61 : decode b_X_inheritOnce 61 = .ok (.iload 6, 2) := by decide +kernel
theorem dX_inheritOnce_63 : decode b_X_inheritOnce 63 = .ok (.aaload, 1) := by decide +kernel
theorem dX_inheritOnce_64 : decode b_X_inheritOnce 64 = .ok (.aload 5, 2) := by decide +kernel
theorem dX_inheritOnce_66 : decode b_X_inheritOnce 66 = .ok (.getfield 163, 3) := by decide +kernel
theorem dX_inheritOnce_69 : decode b_X_inheritOnce 69 = .ok (.putfield 163, 3) := by decide +kernel
theorem dX_inheritOnce_72 : decode b_X_inheritOnce 72 = .ok (.iconst 1, 1) := by decide +kernel
theorem dX_inheritOnce_73 : decode b_X_inheritOnce 73 = .ok (.istore_n 1, 1) := by decide +kernel
theorem dX_inheritOnce_74 : decode b_X_inheritOnce 74 = .ok (.iinc 4 1, 3) := by decide +kernel
theorem dX_inheritOnce_77 : decode b_X_inheritOnce 77 = .ok (.goto (-64), 3) := by decide +kernel
theorem dX_inheritOnce_80 : decode b_X_inheritOnce 80 = .ok (.iload_n 1, 1) := by decide +kernel
theorem dX_inheritOnce_81 : decode b_X_inheritOnce 81 = .ok (.ireturn, 1) := by decide +kernel
theorem dX_workOutEffective_0 : decode b_X_workOutEffective 0 = .ok (.aload_n 0, 1) := by decide +kernel
theorem dX_workOutEffective_1 : decode b_X_workOutEffective 1 = .ok (.getfield 11, 3) := by decide +kernel
theorem dX_workOutEffective_4 : decode b_X_workOutEffective 4 = .ok (.astore_n 1, 1) := by decide +kernel
theorem dX_workOutEffective_5 : decode b_X_workOutEffective 5 = .ok (.aload_n 1, 1) := by decide +kernel
theorem dX_workOutEffective_6 : decode b_X_workOutEffective 6 = .ok (.arraylength, 1) := by decide +kernel
theorem dX_workOutEffective_7 : decode b_X_workOutEffective 7 = .ok (.istore_n 2, 1) := by decide +kernel
theorem dX_workOutEffective_8 : decode b_X_workOutEffective 8 = .ok (.iconst 0, 1) := by decide +kernel
theorem dX_workOutEffective_9 : decode b_X_workOutEffective 9 = .ok (.istore_n 3, 1) := by decide +kernel
theorem dX_workOutEffective_10 : decode b_X_workOutEffective 10 = .ok (.iload_n 3, 1) := by decide +kernel
theorem dX_workOutEffective_11 : decode b_X_workOutEffective 11 = .ok (.iload_n 2, 1) := by decide +kernel
theorem dX_workOutEffective_12 : decode b_X_workOutEffective 12 = .ok (.if_icmp .ge 53, 3) := by decide +kernel
theorem dX_workOutEffective_15 : decode b_X_workOutEffective 15 = .ok (.aload_n 1, 1) := by decide +kernel
theorem dX_workOutEffective_16 : decode b_X_workOutEffective 16 = .ok (.iload_n 3, 1) := by decide +kernel
theorem dX_workOutEffective_17 : decode b_X_workOutEffective 17 = .ok (.aaload, 1) := by decide +kernel
theorem dX_workOutEffective_18 : decode b_X_workOutEffective 18 = .ok (.astore 4, 2) := by decide +kernel
theorem dX_workOutEffective_20 : decode b_X_workOutEffective 20 = .ok (.aload 4, 2) := by decide +kernel
theorem dX_workOutEffective_22 : decode b_X_workOutEffective 22 = .ok (.aload_n 0, 1) := by decide +kernel
theorem dX_workOutEffective_23 : decode b_X_workOutEffective 23 = .ok (.getfield 15, 3) := by decide +kernel
theorem dX_workOutEffective_26 : decode b_X_workOutEffective 26 = .ok (.iconst 3, 1) := by decide +kernel
theorem dX_workOutEffective_27 : decode b_X_workOutEffective 27 = .ok (.iaload, 1) := by decide +kernel
theorem dX_workOutEffective_28 : decode b_X_workOutEffective 28 = .ok (.aload 4, 2) := by decide +kernel
theorem dX_workOutEffective_30 : decode b_X_workOutEffective 30 = .ok (.getfield 74, 3) := by decide +kernel
theorem dX_workOutEffective_33 : decode b_X_workOutEffective 33 = .ok (.if_icmp .ne 18, 3) := by decide +kernel
theorem dX_workOutEffective_36 : decode b_X_workOutEffective 36 = .ok (.aload 4, 2) := by decide +kernel
theorem dX_workOutEffective_38 : decode b_X_workOutEffective 38 = .ok (.getfield 63, 3) := by decide +kernel
theorem dX_workOutEffective_41 : decode b_X_workOutEffective 41 = .ok (.aload_n 0, 1) := by decide +kernel
theorem dX_workOutEffective_42 : decode b_X_workOutEffective 42 = .ok (.getfield 48, 3) := by decide +kernel
theorem dX_workOutEffective_45 : decode b_X_workOutEffective 45 = .ok (.invokestatic 42, 3) := by decide +kernel
theorem dX_workOutEffective_48 : decode b_X_workOutEffective 48 = .ok (.goto 8, 3) := by decide +kernel
theorem dX_workOutEffective_51 : decode b_X_workOutEffective 51 = .ok (.aload 4, 2) := by decide +kernel
theorem dX_workOutEffective_53 : decode b_X_workOutEffective 53 = .ok (.getfield 63, 3) := by decide +kernel
theorem dX_workOutEffective_56 : decode b_X_workOutEffective 56 = .ok (.putfield 163, 3) := by decide +kernel
theorem dX_workOutEffective_59 : decode b_X_workOutEffective 59 = .ok (.iinc 3 1, 3) := by decide +kernel
theorem dX_workOutEffective_62 : decode b_X_workOutEffective 62 = .ok (.goto (-52), 3) := by decide +kernel
theorem dX_workOutEffective_65 : decode b_X_workOutEffective 65 = .ok (.iconst 1, 1) := by decide +kernel
theorem dX_workOutEffective_66 : decode b_X_workOutEffective 66 = .ok (.istore_n 1, 1) := by decide +kernel
theorem dX_workOutEffective_67 : decode b_X_workOutEffective 67 = .ok (.iconst 0, 1) := by decide +kernel
theorem dX_workOutEffective_68 : decode b_X_workOutEffective 68 = .ok (.istore_n 2, 1) := by decide +kernel
theorem dX_workOutEffective_69 : decode b_X_workOutEffective 69 = .ok (.iload_n 2, 1) := by decide +kernel
theorem dX_workOutEffective_70 : decode b_X_workOutEffective 70 = .ok (.bipush 8, 2) := by decide +kernel
theorem dX_workOutEffective_72 : decode b_X_workOutEffective 72 = .ok (.if_icmp .ge 18, 3) := by decide +kernel
theorem dX_workOutEffective_75 : decode b_X_workOutEffective 75 = .ok (.iload_n 1, 1) := by decide +kernel
theorem dX_workOutEffective_76 : decode b_X_workOutEffective 76 = .ok (.ifCond .eq 14, 3) := by decide +kernel
theorem dX_workOutEffective_79 : decode b_X_workOutEffective 79 = .ok (.aload_n 0, 1) := by decide +kernel
theorem dX_workOutEffective_80 : decode b_X_workOutEffective 80 = .ok (.invokevirtual 185, 3) := by decide +kernel
theorem dX_workOutEffective_83 : decode b_X_workOutEffective 83 = .ok (.istore_n 1, 1) := by decide +kernel
theorem dX_workOutEffective_84 : decode b_X_workOutEffective 84 = .ok (.iinc 2 1, 3) := by decide +kernel
theorem dX_workOutEffective_87 : decode b_X_workOutEffective 87 = .ok (.goto (-18), 3) := by decide +kernel
theorem dX_workOutEffective_90 : decode b_X_workOutEffective 90 = .ok (.return_, 1) := by decide +kernel
theorem dX_foremost_0 : decode b_X_foremost 0 = .ok (.aload_n 0, 1) := by decide +kernel
theorem dX_foremost_1 : decode b_X_foremost 1 = .ok (.invokevirtual 160, 3) := by decide +kernel
theorem dX_foremost_4 : decode b_X_foremost 4 = .ok (.aconst_null, 1) := by decide +kernel
theorem dX_foremost_5 : decode b_X_foremost 5 = .ok (.astore_n 3, 1) := by decide +kernel
theorem dX_foremost_6 : decode b_X_foremost 6 = .ok (.aload_n 0, 1) := by decide +kernel
theorem dX_foremost_7 : decode b_X_foremost 7 = .ok (.getfield 11, 3) := by decide +kernel
theorem dX_foremost_10 : decode b_X_foremost 10 = .ok (.astore 4, 2) := by decide +kernel
theorem dX_foremost_12 : decode b_X_foremost 12 = .ok (.aload 4, 2) := by decide +kernel
theorem dX_foremost_14 : decode b_X_foremost 14 = .ok (.arraylength, 1) := by decide +kernel
theorem dX_foremost_15 : decode b_X_foremost 15 = .ok (.istore 5, 2) := by decide +kernel
theorem dX_foremost_17 : decode b_X_foremost 17 = .ok (.iconst 0, 1) := by decide +kernel
theorem dX_foremost_18 : decode b_X_foremost 18 = .ok (.istore 6, 2) := by decide +kernel
theorem dX_foremost_20 : decode b_X_foremost 20 = .ok (.iload 6, 2) := by decide +kernel
theorem dX_foremost_22 : decode b_X_foremost 22 = .ok (.iload 5, 2) := by decide +kernel
theorem dX_foremost_24 : decode b_X_foremost 24 = .ok (.if_icmp .ge 50, 3) := by decide +kernel
theorem dX_foremost_27 : decode b_X_foremost 27 = .ok (.aload 4, 2) := by decide +kernel
theorem dX_foremost_29 : decode b_X_foremost 29 = .ok (.iload 6, 2) := by decide +kernel
theorem dX_foremost_31 : decode b_X_foremost 31 = .ok (.aaload, 1) := by decide +kernel
theorem dX_foremost_32 : decode b_X_foremost 32 = .ok (.astore 7, 2) := by decide +kernel
theorem dX_foremost_34 : decode b_X_foremost 34 = .ok (.aload 7, 2) := by decide +kernel
theorem dX_foremost_36 : decode b_X_foremost 36 = .ok (.getfield 81, 3) := by decide +kernel
theorem dX_foremost_39 : decode b_X_foremost 39 = .ok (.iload_n 1, 1) := by decide +kernel
theorem dX_foremost_40 : decode b_X_foremost 40 = .ok (.if_icmp .ne 28, 3) := by decide +kernel
theorem dX_foremost_43 : decode b_X_foremost 43 = .ok (.aload 7, 2) := by decide +kernel
theorem dX_foremost_45 : decode b_X_foremost 45 = .ok (.getfield 166, 3) := by decide +kernel
theorem dX_foremost_48 : decode b_X_foremost 48 = .ok (.iload_n 2, 1) := by decide +kernel
theorem dX_foremost_49 : decode b_X_foremost 49 = .ok (.if_icmp .ne 19, 3) := by decide +kernel
theorem dX_foremost_52 : decode b_X_foremost 52 = .ok (.aload_n 3, 1) := by decide +kernel
theorem dX_foremost_53 : decode b_X_foremost 53 = .ok (.ifnull 12, 3) := by decide +kernel
theorem dX_foremost_56 : decode b_X_foremost 56 = .ok (.aload 7, 2) := by decide +kernel
theorem dX_foremost_58 : decode b_X_foremost 58 = .ok (.aload_n 3, 1) := by decide +kernel
theorem dX_foremost_59 : decode b_X_foremost 59 = .ok (.invokevirtual 182, 3) := by decide +kernel
theorem dX_foremost_62 : decode b_X_foremost 62 = .ok (.ifCond .eq 6, 3) := by decide +kernel
theorem dX_foremost_65 : decode b_X_foremost 65 = .ok (.aload 7, 2) := by decide +kernel
theorem dX_foremost_67 : decode b_X_foremost 67 = .ok (.astore_n 3, 1) := by decide +kernel
theorem dX_foremost_68 : decode b_X_foremost 68 = .ok (.iinc 6 1, 3) := by decide +kernel
theorem dX_foremost_71 : decode b_X_foremost 71 = .ok (.goto (-51), 3) := by decide +kernel
theorem dX_foremost_74 : decode b_X_foremost 74 = .ok (.aload_n 3, 1) := by decide +kernel
theorem dX_foremost_75 : decode b_X_foremost 75 = .ok (.areturn, 1) := by decide +kernel
theorem dX_runner_0 : decode b_X_runner 0 = .ok (.aload_n 0, 1) := by decide +kernel
theorem dX_runner_1 : decode b_X_runner 1 = .ok (.iconst 1, 1) := by decide +kernel
theorem dX_runner_2 : decode b_X_runner 2 = .ok (.iconst 0, 1) := by decide +kernel
theorem dX_runner_3 : decode b_X_runner 3 = .ok (.invokevirtual 178, 3) := by decide +kernel
theorem dX_runner_6 : decode b_X_runner 6 = .ok (.areturn, 1) := by decide +kernel
theorem dX_firstWaiter_0 : decode b_X_firstWaiter 0 = .ok (.aload_n 0, 1) := by decide +kernel
theorem dX_firstWaiter_1 : decode b_X_firstWaiter 1 = .ok (.iconst 2, 1) := by decide +kernel
theorem dX_firstWaiter_2 : decode b_X_firstWaiter 2 = .ok (.iload_n 1, 1) := by decide +kernel
theorem dX_firstWaiter_3 : decode b_X_firstWaiter 3 = .ok (.invokevirtual 178, 3) := by decide +kernel
theorem dX_firstWaiter_6 : decode b_X_firstWaiter 6 = .ok (.areturn, 1) := by decide +kernel
theorem dX_startTurn_0 : decode b_X_startTurn 0 = .ok (.aload_n 1, 1) := by decide +kernel
theorem dX_startTurn_1 : decode b_X_startTurn 1 = .ok (.aload_n 0, 1) := by decide +kernel
theorem dX_startTurn_2 : decode b_X_startTurn 2 = .ok (.dup, 1) := by decide +kernel
theorem dX_startTurn_3 : decode b_X_startTurn 3 = .ok (.getfield 32, 3) := by decide +kernel
theorem dX_startTurn_6 : decode b_X_startTurn 6 = .ok (.lconst 1, 1) := by decide +kernel
theorem dX_startTurn_7 : decode b_X_startTurn 7 = .ok (.ladd, 1) := by decide +kernel
theorem dX_startTurn_8 : decode b_X_startTurn 8 = .ok (.dup2_x1, 1) := by decide +kernel
theorem dX_startTurn_9 : decode b_X_startTurn 9 = .ok (.putfield 32, 3) := by decide +kernel
theorem dX_startTurn_12 : decode b_X_startTurn 12 = .ok (.putfield 84, 3) := by decide +kernel
theorem dX_startTurn_15 : decode b_X_startTurn 15 = .ok (.aload_n 1, 1) := by decide +kernel
theorem dX_startTurn_16 : decode b_X_startTurn 16 = .ok (.iconst 0, 1) := by decide +kernel
theorem dX_startTurn_17 : decode b_X_startTurn 17 = .ok (.putfield 192, 3) := by decide +kernel
theorem dX_startTurn_20 : decode b_X_startTurn 20 = .ok (.return_, 1) := by decide +kernel
theorem dX_makeReady_0 : decode b_X_makeReady 0 = .ok (.aload_n 1, 1) := by decide +kernel
theorem dX_makeReady_1 : decode b_X_makeReady 1 = .ok (.iconst 1, 1) := by decide +kernel
theorem dX_makeReady_2 : decode b_X_makeReady 2 = .ok (.putfield 81, 3) := by decide +kernel
theorem dX_makeReady_5 : decode b_X_makeReady 5 = .ok (.aload_n 1, 1) := by decide +kernel
theorem dX_makeReady_6 : decode b_X_makeReady 6 = .ok (.iconst 0, 1) := by decide +kernel
theorem dX_makeReady_7 : decode b_X_makeReady 7 = .ok (.putfield 166, 3) := by decide +kernel
theorem dX_makeReady_10 : decode b_X_makeReady 10 = .ok (.aload_n 1, 1) := by decide +kernel
theorem dX_makeReady_11 : decode b_X_makeReady 11 = .ok (.ldc2_w 137, 3) := by decide +kernel
theorem dX_makeReady_14 : decode b_X_makeReady 14 = .ok (.putfield 169, 3) := by decide +kernel
theorem dX_makeReady_17 : decode b_X_makeReady 17 = .ok (.aload_n 1, 1) := by decide +kernel
theorem dX_makeReady_18 : decode b_X_makeReady 18 = .ok (.iload_n 2, 1) := by decide +kernel
theorem dX_makeReady_19 : decode b_X_makeReady 19 = .ok (.putfield 124, 3) := by decide +kernel
theorem dX_makeReady_22 : decode b_X_makeReady 22 = .ok (.aload_n 1, 1) := by decide +kernel
theorem dX_makeReady_23 : decode b_X_makeReady 23 = .ok (.aload_n 0, 1) := by decide +kernel
theorem dX_makeReady_24 : decode b_X_makeReady 24 = .ok (.dup, 1) := by decide +kernel
theorem dX_makeReady_25 : decode b_X_makeReady 25 = .ok (.getfield 32, 3) := by decide +kernel
theorem dX_makeReady_28 : decode b_X_makeReady 28 = .ok (.lconst 1, 1) := by decide +kernel
theorem dX_makeReady_29 : decode b_X_makeReady 29 = .ok (.ladd, 1) := by decide +kernel
theorem dX_makeReady_30 : decode b_X_makeReady 30 = .ok (.dup2_x1, 1) := by decide +kernel
theorem dX_makeReady_31 : decode b_X_makeReady 31 = .ok (.putfield 32, 3) := by decide +kernel
theorem dX_makeReady_34 : decode b_X_makeReady 34 = .ok (.putfield 84, 3) := by decide +kernel
theorem dX_makeReady_37 : decode b_X_makeReady 37 = .ok (.aload_n 1, 1) := by decide +kernel
theorem dX_makeReady_38 : decode b_X_makeReady 38 = .ok (.iconst 0, 1) := by decide +kernel
theorem dX_makeReady_39 : decode b_X_makeReady 39 = .ok (.putfield 192, 3) := by decide +kernel
theorem dX_makeReady_42 : decode b_X_makeReady 42 = .ok (.return_, 1) := by decide +kernel
theorem dX_block_0 : decode b_X_block 0 = .ok (.aload_n 1, 1) := by decide +kernel
theorem dX_block_1 : decode b_X_block 1 = .ok (.iconst 2, 1) := by decide +kernel
theorem dX_block_2 : decode b_X_block 2 = .ok (.putfield 81, 3) := by decide +kernel
theorem dX_block_5 : decode b_X_block 5 = .ok (.aload_n 1, 1) := by decide +kernel
theorem dX_block_6 : decode b_X_block 6 = .ok (.iload_n 2, 1) := by decide +kernel
theorem dX_block_7 : decode b_X_block 7 = .ok (.putfield 166, 3) := by decide +kernel
theorem dX_block_10 : decode b_X_block 10 = .ok (.aload_n 1, 1) := by decide +kernel
theorem dX_block_11 : decode b_X_block 11 = .ok (.lload_n 3, 1) := by decide +kernel
theorem dX_block_12 : decode b_X_block 12 = .ok (.putfield 169, 3) := by decide +kernel
theorem dX_block_15 : decode b_X_block 15 = .ok (.aload_n 1, 1) := by decide +kernel
theorem dX_block_16 : decode b_X_block 16 = .ok (.aload_n 0, 1) := by decide +kernel
theorem dX_block_17 : decode b_X_block 17 = .ok (.dup, 1) := by decide +kernel
theorem dX_block_18 : decode b_X_block 18 = .ok (.getfield 32, 3) := by decide +kernel
theorem dX_block_21 : decode b_X_block 21 = .ok (.lconst 1, 1) := by decide +kernel
theorem dX_block_22 : decode b_X_block 22 = .ok (.ladd, 1) := by decide +kernel
theorem dX_block_23 : decode b_X_block 23 = .ok (.dup2_x1, 1) := by decide +kernel
theorem dX_block_24 : decode b_X_block 24 = .ok (.putfield 32, 3) := by decide +kernel
theorem dX_block_27 : decode b_X_block 27 = .ok (.putfield 84, 3) := by decide +kernel
theorem dX_block_30 : decode b_X_block 30 = .ok (.return_, 1) := by decide +kernel
theorem dX_makeOwner_0 : decode b_X_makeOwner 0 = .ok (.aload_n 0, 1) := by decide +kernel
theorem dX_makeOwner_1 : decode b_X_makeOwner 1 = .ok (.getfield 15, 3) := by decide +kernel
theorem dX_makeOwner_4 : decode b_X_makeOwner 4 = .ok (.iload_n 2, 1) := by decide +kernel
theorem dX_makeOwner_5 : decode b_X_makeOwner 5 = .ok (.aload_n 1, 1) := by decide +kernel
theorem dX_makeOwner_6 : decode b_X_makeOwner 6 = .ok (.getfield 74, 3) := by decide +kernel
theorem dX_makeOwner_9 : decode b_X_makeOwner 9 = .ok (.iastore, 1) := by decide +kernel
theorem dX_makeOwner_10 : decode b_X_makeOwner 10 = .ok (.aload_n 1, 1) := by decide +kernel
theorem dX_makeOwner_11 : decode b_X_makeOwner 11 = .ok (.getfield 81, 3) := by decide +kernel
theorem dX_makeOwner_14 : decode b_X_makeOwner 14 = .ok (.iconst 1, 1) := by decide +kernel
theorem dX_makeOwner_15 : decode b_X_makeOwner 15 = .ok (.if_icmp .ne 14, 3) := by decide +kernel
theorem dX_makeOwner_18 : decode b_X_makeOwner 18 = .ok (.aload_n 1, 1) := by decide +kernel
theorem dX_makeOwner_19 : decode b_X_makeOwner 19 = .ok (.aload_n 1, 1) := by decide +kernel
theorem dX_makeOwner_20 : decode b_X_makeOwner 20 = .ok (.getfield 94, 3) := by decide +kernel
theorem dX_makeOwner_23 : decode b_X_makeOwner 23 = .ok (.putfield 124, 3) := by decide +kernel
theorem dX_makeOwner_26 : decode b_X_makeOwner 26 = .ok (.goto 12, 3) := by decide +kernel
theorem dX_makeOwner_29 : decode b_X_makeOwner 29 = .ok (.aload_n 0, 1) := by decide +kernel
theorem dX_makeOwner_30 : decode b_X_makeOwner 30 = .ok (.aload_n 1, 1) := by decide +kernel
theorem dX_makeOwner_31 : decode b_X_makeOwner 31 = .ok (.aload_n 1, 1) := by decide +kernel
theorem dX_makeOwner_32 : decode b_X_makeOwner 32 = .ok (.getfield 94, 3) := by decide +kernel
theorem dX_makeOwner_35 : decode b_X_makeOwner 35 = .ok (.invokevirtual 70, 3) := by decide +kernel
theorem dX_makeOwner_38 : decode b_X_makeOwner 38 = .ok (.return_, 1) := by decide +kernel
theorem dX_take_0 : decode b_X_take 0 = .ok (.aload_n 0, 1) := by decide +kernel
theorem dX_take_1 : decode b_X_take 1 = .ok (.getfield 15, 3) := by decide +kernel
theorem dX_take_4 : decode b_X_take 4 = .ok (.iload_n 2, 1) := by decide +kernel
theorem dX_take_5 : decode b_X_take 5 = .ok (.iaload, 1) := by decide +kernel
theorem dX_take_6 : decode b_X_take 6 = .ok (.iconst (-1), 1) := by decide +kernel
theorem dX_take_7 : decode b_X_take 7 = .ok (.if_icmp .ne 12, 3) := by decide +kernel
theorem dX_take_10 : decode b_X_take 10 = .ok (.aload_n 0, 1) := by decide +kernel
theorem dX_take_11 : decode b_X_take 11 = .ok (.aload_n 1, 1) := by decide +kernel
theorem dX_take_12 : decode b_X_take 12 = .ok (.iload_n 2, 1) := by decide +kernel
theorem dX_take_13 : decode b_X_take 13 = .ok (.invokevirtual 195, 3) := by decide +kernel
theorem dX_take_16 : decode b_X_take 16 = .ok (.goto 15, 3) := by decide +kernel
theorem dX_take_19 : decode b_X_take 19 = .ok (.aload_n 0, 1) := by decide +kernel
theorem dX_take_20 : decode b_X_take 20 = .ok (.aload_n 1, 1) := by decide +kernel
theorem dX_take_21 : decode b_X_take 21 = .ok (.bipush 10, 2) := by decide +kernel
theorem dX_take_23 : decode b_X_take 23 = .ok (.iload_n 2, 1) := by decide +kernel
theorem dX_take_24 : decode b_X_take 24 = .ok (.iadd, 1) := by decide +kernel
theorem dX_take_25 : decode b_X_take 25 = .ok (.ldc2_w 137, 3) := by decide +kernel
theorem dX_take_28 : decode b_X_take 28 = .ok (.invokevirtual 113, 3) := by decide +kernel
theorem dX_take_31 : decode b_X_take 31 = .ok (.return_, 1) := by decide +kernel
theorem dX_give_0 : decode b_X_give 0 = .ok (.aload_n 0, 1) := by decide +kernel
theorem dX_give_1 : decode b_X_give 1 = .ok (.getfield 15, 3) := by decide +kernel
theorem dX_give_4 : decode b_X_give 4 = .ok (.iload_n 1, 1) := by decide +kernel
theorem dX_give_5 : decode b_X_give 5 = .ok (.iconst (-1), 1) := by decide +kernel
theorem dX_give_6 : decode b_X_give 6 = .ok (.iastore, 1) := by decide +kernel
theorem dX_give_7 : decode b_X_give 7 = .ok (.aload_n 0, 1) := by decide +kernel
theorem dX_give_8 : decode b_X_give 8 = .ok (.bipush 10, 2) := by decide +kernel
theorem dX_give_10 : decode b_X_give 10 = .ok (.iload_n 1, 1) := by decide +kernel
theorem dX_give_11 : decode b_X_give 11 = .ok (.iadd, 1) := by decide +kernel
theorem dX_give_12 : decode b_X_give 12 = .ok (.invokevirtual 117, 3) := by decide +kernel
theorem dX_give_15 : decode b_X_give 15 = .ok (.astore_n 2, 1) := by decide +kernel
theorem dX_give_16 : decode b_X_give 16 = .ok (.aload_n 2, 1) := by decide +kernel
theorem dX_give_17 : decode b_X_give 17 = .ok (.ifnull 9, 3) := by decide +kernel
theorem dX_give_20 : decode b_X_give 20 = .ok (.aload_n 0, 1) := by decide +kernel
theorem dX_give_21 : decode b_X_give 21 = .ok (.aload_n 2, 1) := by decide +kernel
theorem dX_give_22 : decode b_X_give 22 = .ok (.iload_n 1, 1) := by decide +kernel
theorem dX_give_23 : decode b_X_give 23 = .ok (.invokevirtual 195, 3) := by decide +kernel
theorem dX_give_26 : decode b_X_give 26 = .ok (.return_, 1) := by decide +kernel
theorem dX_endAwait_0 : decode b_X_endAwait 0 = .ok (.aload_n 1, 1) := by decide +kernel
theorem dX_endAwait_1 : decode b_X_endAwait 1 = .ok (.iload_n 2, 1) := by decide +kernel
theorem dX_endAwait_2 : decode b_X_endAwait 2 = .ok (.putfield 124, 3) := by decide +kernel
theorem dX_endAwait_5 : decode b_X_endAwait 5 = .ok (.aload_n 1, 1) := by decide +kernel
theorem dX_endAwait_6 : decode b_X_endAwait 6 = .ok (.iload_n 2, 1) := by decide +kernel
theorem dX_endAwait_7 : decode b_X_endAwait 7 = .ok (.putfield 94, 3) := by decide +kernel
theorem dX_endAwait_10 : decode b_X_endAwait 10 = .ok (.aload_n 0, 1) := by decide +kernel
theorem dX_endAwait_11 : decode b_X_endAwait 11 = .ok (.aload_n 1, 1) := by decide +kernel
theorem dX_endAwait_12 : decode b_X_endAwait 12 = .ok (.aload_n 1, 1) := by decide +kernel
theorem dX_endAwait_13 : decode b_X_endAwait 13 = .ok (.getfield 106, 3) := by decide +kernel
theorem dX_endAwait_16 : decode b_X_endAwait 16 = .ok (.invokevirtual 97, 3) := by decide +kernel
theorem dX_endAwait_19 : decode b_X_endAwait 19 = .ok (.return_, 1) := by decide +kernel
theorem dX_arrive_0 : decode b_X_arrive 0 = .ok (.aload_n 0, 1) := by decide +kernel
theorem dX_arrive_1 : decode b_X_arrive 1 = .ok (.bipush 50, 2) := by decide +kernel
theorem dX_arrive_3 : decode b_X_arrive 3 = .ok (.iload_n 1, 1) := by decide +kernel
theorem dX_arrive_4 : decode b_X_arrive 4 = .ok (.iadd, 1) := by decide +kernel
theorem dX_arrive_5 : decode b_X_arrive 5 = .ok (.invokevirtual 117, 3) := by decide +kernel
theorem dX_arrive_8 : decode b_X_arrive 8 = .ok (.astore 4, 2) := by decide +kernel
theorem dX_arrive_10 : decode b_X_arrive 10 = .ok (.aload 4, 2) := by decide +kernel
theorem dX_arrive_12 : decode b_X_arrive 12 = .ok (.ifnull 13, 3) := by decide +kernel
theorem dX_arrive_15 : decode b_X_arrive 15 = .ok (.aload_n 0, 1) := by decide +kernel
theorem dX_arrive_16 : decode b_X_arrive 16 = .ok (.aload 4, 2) := by decide +kernel
theorem dX_arrive_18 : decode b_X_arrive 18 = .ok (.iload_n 3, 1) := by decide +kernel
theorem dX_arrive_19 : decode b_X_arrive 19 = .ok (.invokevirtual 70, 3) := by decide +kernel
theorem dX_arrive_22 : decode b_X_arrive 22 = .ok (.goto 14, 3) := by decide +kernel
theorem dX_arrive_25 : decode b_X_arrive 25 = .ok (.aload_n 0, 1) := by decide +kernel
theorem dX_arrive_26 : decode b_X_arrive 26 = .ok (.getfield 24, 3) := by decide +kernel
theorem dX_arrive_29 : decode b_X_arrive 29 = .ok (.iload_n 1, 1) := by decide +kernel
theorem dX_arrive_30 : decode b_X_arrive 30 = .ok (.aaload, 1) := by decide +kernel
theorem dX_arrive_31 : decode b_X_arrive 31 = .ok (.iload_n 2, 1) := by decide +kernel
theorem dX_arrive_32 : decode b_X_arrive 32 = .ok (.iload_n 3, 1) := by decide +kernel
theorem dX_arrive_33 : decode b_X_arrive 33 = .ok (.invokevirtual 198, 3) := by decide +kernel
theorem dX_arrive_36 : decode b_X_arrive 36 = .ok (.return_, 1) := by decide +kernel
theorem dX_useTick_0 : decode b_X_useTick 0 = .ok (.aload_n 1, 1) := by decide +kernel
theorem dX_useTick_1 : decode b_X_useTick 1 = .ok (.dup, 1) := by decide +kernel
theorem dX_useTick_2 : decode b_X_useTick 2 = .ok (.getfield 192, 3) := by decide +kernel
theorem dX_useTick_5 : decode b_X_useTick 5 = .ok (.iconst 1, 1) := by decide +kernel
theorem dX_useTick_6 : decode b_X_useTick 6 = .ok (.iadd, 1) := by decide +kernel
theorem dX_useTick_7 : decode b_X_useTick 7 = .ok (.putfield 192, 3) := by decide +kernel
theorem dX_useTick_10 : decode b_X_useTick 10 = .ok (.aload_n 1, 1) := by decide +kernel
theorem dX_useTick_11 : decode b_X_useTick 11 = .ok (.getfield 66, 3) := by decide +kernel
theorem dX_useTick_14 : decode b_X_useTick 14 = .ok (.ifCond .eq 19, 3) := by decide +kernel
theorem dX_useTick_17 : decode b_X_useTick 17 = .ok (.aload_n 1, 1) := by decide +kernel
theorem dX_useTick_18 : decode b_X_useTick 18 = .ok (.getfield 192, 3) := by decide +kernel
theorem dX_useTick_21 : decode b_X_useTick 21 = .ok (.aload_n 0, 1) := by decide +kernel
theorem dX_useTick_22 : decode b_X_useTick 22 = .ok (.getfield 45, 3) := by decide +kernel
theorem dX_useTick_25 : decode b_X_useTick 25 = .ok (.if_icmp .ne 8, 3) := by decide +kernel
theorem dX_useTick_28 : decode b_X_useTick 28 = .ok (.aload_n 0, 1) := by decide +kernel
theorem dX_useTick_29 : decode b_X_useTick 29 = .ok (.aload_n 1, 1) := by decide +kernel
theorem dX_useTick_30 : decode b_X_useTick 30 = .ok (.invokevirtual 90, 3) := by decide +kernel
theorem dX_useTick_33 : decode b_X_useTick 33 = .ok (.return_, 1) := by decide +kernel
theorem dX_endWait_0 : decode b_X_endWait 0 = .ok (.aload_n 1, 1) := by decide +kernel
theorem dX_endWait_1 : decode b_X_endWait 1 = .ok (.getfield 166, 3) := by decide +kernel
theorem dX_endWait_4 : decode b_X_endWait 4 = .ok (.bipush 60, 2) := by decide +kernel
theorem dX_endWait_6 : decode b_X_endWait 6 = .ok (.if_icmp .ne 12, 3) := by decide +kernel
theorem dX_endWait_9 : decode b_X_endWait 9 = .ok (.aload_n 0, 1) := by decide +kernel
theorem dX_endWait_10 : decode b_X_endWait 10 = .ok (.aload_n 1, 1) := by decide +kernel
theorem dX_endWait_11 : decode b_X_endWait 11 = .ok (.iconst 0, 1) := by decide +kernel
theorem dX_endWait_12 : decode b_X_endWait 12 = .ok (.invokevirtual 70, 3) := by decide +kernel
theorem dX_endWait_15 : decode b_X_endWait 15 = .ok (.goto 32, 3) := by decide +kernel
theorem dX_endWait_18 : decode b_X_endWait 18 = .ok (.aload_n 1, 1) := by decide +kernel
theorem dX_endWait_19 : decode b_X_endWait 19 = .ok (.getfield 166, 3) := by decide +kernel
theorem dX_endWait_22 : decode b_X_endWait 22 = .ok (.bipush 20, 2) := by decide +kernel
theorem dX_endWait_24 : decode b_X_endWait 24 = .ok (.isub, 1) := by decide +kernel
theorem dX_endWait_25 : decode b_X_endWait 25 = .ok (.iconst 2, 1) := by decide +kernel
theorem dX_endWait_26 : decode b_X_endWait 26 = .ok (.invokestatic 77, 3) := by decide +kernel
theorem dX_endWait_29 : decode b_X_endWait 29 = .ok (.ifCond .eq 12, 3) := by decide +kernel
theorem dX_endWait_32 : decode b_X_endWait 32 = .ok (.aload_n 0, 1) := by decide +kernel
theorem dX_endWait_33 : decode b_X_endWait 33 = .ok (.aload_n 1, 1) := by decide +kernel
theorem dX_endWait_34 : decode b_X_endWait 34 = .ok (.iconst 2, 1) := by decide +kernel
theorem dX_endWait_35 : decode b_X_endWait 35 = .ok (.invokevirtual 121, 3) := by decide +kernel
theorem dX_endWait_38 : decode b_X_endWait 38 = .ok (.goto 9, 3) := by decide +kernel
theorem dX_endWait_41 : decode b_X_endWait 41 = .ok (.aload_n 0, 1) := by decide +kernel
theorem dX_endWait_42 : decode b_X_endWait 42 = .ok (.aload_n 1, 1) := by decide +kernel
theorem dX_endWait_43 : decode b_X_endWait 43 = .ok (.iconst 2, 1) := by decide +kernel
theorem dX_endWait_44 : decode b_X_endWait 44 = .ok (.invokevirtual 70, 3) := by decide +kernel
theorem dX_endWait_47 : decode b_X_endWait 47 = .ok (.return_, 1) := by decide +kernel
theorem dX_tickOnce_0 : decode b_X_tickOnce 0 = .ok (.aload_n 0, 1) := by decide +kernel
theorem dX_tickOnce_1 : decode b_X_tickOnce 1 = .ok (.invokevirtual 87, 3) := by decide +kernel
theorem dX_tickOnce_4 : decode b_X_tickOnce 4 = .ok (.astore_n 1, 1) := by decide +kernel
theorem dX_tickOnce_5 : decode b_X_tickOnce 5 = .ok (.aload_n 0, 1) := by decide +kernel
theorem dX_tickOnce_6 : decode b_X_tickOnce 6 = .ok (.dup, 1) := by decide +kernel
theorem dX_tickOnce_7 : decode b_X_tickOnce 7 = .ok (.getfield 28, 3) := by decide +kernel
theorem dX_tickOnce_10 : decode b_X_tickOnce 10 = .ok (.iconst 1, 1) := by decide +kernel
theorem dX_tickOnce_11 : decode b_X_tickOnce 11 = .ok (.iadd, 1) := by decide +kernel
theorem dX_tickOnce_12 : decode b_X_tickOnce 12 = .ok (.putfield 28, 3) := by decide +kernel
theorem dX_tickOnce_15 : decode b_X_tickOnce 15 = .ok (.aload_n 1, 1) := by decide +kernel
theorem dX_tickOnce_16 : decode b_X_tickOnce 16 = .ok (.ifnull 8, 3) := by decide +kernel
theorem dX_tickOnce_19 : decode b_X_tickOnce 19 = .ok (.aload_n 0, 1) := by decide +kernel
theorem dX_tickOnce_20 : decode b_X_tickOnce 20 = .ok (.aload_n 1, 1) := by decide +kernel
theorem dX_tickOnce_21 : decode b_X_tickOnce 21 = .ok (.invokevirtual 202, 3) := by decide +kernel
theorem dX_tickOnce_24 : decode b_X_tickOnce 24 = .ok (.aload_n 0, 1) := by decide +kernel
theorem dX_tickOnce_25 : decode b_X_tickOnce 25 = .ok (.getfield 11, 3) := by decide +kernel
theorem dX_tickOnce_28 : decode b_X_tickOnce 28 = .ok (.astore_n 2, 1) := by decide +kernel
theorem dX_tickOnce_29 : decode b_X_tickOnce 29 = .ok (.aload_n 2, 1) := by decide +kernel
theorem dX_tickOnce_30 : decode b_X_tickOnce 30 = .ok (.arraylength, 1) := by decide +kernel
theorem dX_tickOnce_31 : decode b_X_tickOnce 31 = .ok (.istore_n 3, 1) := by decide +kernel
theorem dX_tickOnce_32 : decode b_X_tickOnce 32 = .ok (.iconst 0, 1) := by decide +kernel
theorem dX_tickOnce_33 : decode b_X_tickOnce 33 = .ok (.istore 4, 2) := by decide +kernel
theorem dX_tickOnce_35 : decode b_X_tickOnce 35 = .ok (.iload 4, 2) := by decide +kernel
theorem dX_tickOnce_37 : decode b_X_tickOnce 37 = .ok (.iload_n 3, 1) := by decide +kernel
theorem dX_tickOnce_38 : decode b_X_tickOnce 38 = .ok (.if_icmp .ge 35, 3) := by decide +kernel
theorem dX_tickOnce_41 : decode b_X_tickOnce 41 = .ok (.aload_n 2, 1) := by decide +kernel
theorem dX_tickOnce_42 : decode b_X_tickOnce 42 = .ok (.iload 4, 2) := by decide +kernel
theorem dX_tickOnce_44 : decode b_X_tickOnce 44 = .ok (.aaload, 1) := by decide +kernel
theorem dX_tickOnce_45 : decode b_X_tickOnce 45 = .ok (.astore 5, 2) := by decide +kernel
theorem dX_tickOnce_47 : decode b_X_tickOnce 47 = .ok (.aload 5, 2) := by decide +kernel
theorem dX_tickOnce_49 : decode b_X_tickOnce 49 = .ok (.getfield 169, 3) := by decide +kernel
theorem dX_tickOnce_52 : decode b_X_tickOnce 52 = .ok (.aload_n 0, 1) := by decide +kernel
theorem dX_tickOnce_53 : decode b_X_tickOnce 53 = .ok (.getfield 28, 3) := by decide +kernel
theorem dX_tickOnce_56 : decode b_X_tickOnce 56 = .ok (.i2l, 1) := by decide +kernel
theorem dX_tickOnce_57 : decode b_X_tickOnce 57 = .ok (.lcmp, 1) := by decide +kernel
theorem dX_tickOnce_58 : decode b_X_tickOnce 58 = .ok (.ifCond .ne 9, 3) := by decide +kernel
theorem dX_tickOnce_61 : decode b_X_tickOnce 61 = .ok (.aload_n 0, 1) := by decide +kernel
theorem dX_tickOnce_62 : decode b_X_tickOnce 62 = .ok (.aload 5, 2) := by decide +kernel
theorem dX_tickOnce_64 : decode b_X_tickOnce 64 = .ok (.invokevirtual 205, 3) := by decide +kernel
theorem dX_tickOnce_67 : decode b_X_tickOnce 67 = .ok (.iinc 4 1, 3) := by decide +kernel
theorem dX_tickOnce_70 : decode b_X_tickOnce 70 = .ok (.goto (-35), 3) := by decide +kernel
theorem dX_tickOnce_73 : decode b_X_tickOnce 73 = .ok (.return_, 1) := by decide +kernel
theorem dX_leastFree_0 : decode b_X_leastFree 0 = .ok (.aload_n 0, 1) := by decide +kernel
theorem dX_leastFree_1 : decode b_X_leastFree 1 = .ok (.getfield 11, 3) := by decide +kernel
theorem dX_leastFree_4 : decode b_X_leastFree 4 = .ok (.astore_n 1, 1) := by decide +kernel
theorem dX_leastFree_5 : decode b_X_leastFree 5 = .ok (.aload_n 1, 1) := by decide +kernel
theorem dX_leastFree_6 : decode b_X_leastFree 6 = .ok (.arraylength, 1) := by decide +kernel
theorem dX_leastFree_7 : decode b_X_leastFree 7 = .ok (.istore_n 2, 1) := by decide +kernel
theorem dX_leastFree_8 : decode b_X_leastFree 8 = .ok (.iconst 0, 1) := by decide +kernel
theorem dX_leastFree_9 : decode b_X_leastFree 9 = .ok (.istore_n 3, 1) := by decide +kernel
theorem dX_leastFree_10 : decode b_X_leastFree 10 = .ok (.iload_n 3, 1) := by decide +kernel
theorem dX_leastFree_11 : decode b_X_leastFree 11 = .ok (.iload_n 2, 1) := by decide +kernel
theorem dX_leastFree_12 : decode b_X_leastFree 12 = .ok (.if_icmp .ge 25, 3) := by decide +kernel
theorem dX_leastFree_15 : decode b_X_leastFree 15 = .ok (.aload_n 1, 1) := by decide +kernel
theorem dX_leastFree_16 : decode b_X_leastFree 16 = .ok (.iload_n 3, 1) := by decide +kernel
theorem dX_leastFree_17 : decode b_X_leastFree 17 = .ok (.aaload, 1) := by decide +kernel
theorem dX_leastFree_18 : decode b_X_leastFree 18 = .ok (.astore 4, 2) := by decide +kernel
theorem dX_leastFree_20 : decode b_X_leastFree 20 = .ok (.aload 4, 2) := by decide +kernel
theorem dX_leastFree_22 : decode b_X_leastFree 22 = .ok (.getfield 81, 3) := by decide +kernel
theorem dX_leastFree_25 : decode b_X_leastFree 25 = .ok (.ifCond .ne 6, 3) := by decide +kernel
theorem dX_leastFree_28 : decode b_X_leastFree 28 = .ok (.aload 4, 2) := by decide +kernel
theorem dX_leastFree_30 : decode b_X_leastFree 30 = .ok (.areturn, 1) := by decide +kernel
theorem dX_leastFree_31 : decode b_X_leastFree 31 = .ok (.iinc 3 1, 3) := by decide +kernel
theorem dX_leastFree_34 : decode b_X_leastFree 34 = .ok (.goto (-24), 3) := by decide +kernel
theorem dX_leastFree_37 : decode b_X_leastFree 37 = .ok (.aconst_null, 1) := by decide +kernel
theorem dX_leastFree_38 : decode b_X_leastFree 38 = .ok (.areturn, 1) := by decide +kernel
theorem dX_readyThreads_0 : decode b_X_readyThreads 0 = .ok (.iconst 0, 1) := by decide +kernel
theorem dX_readyThreads_1 : decode b_X_readyThreads 1 = .ok (.istore_n 1, 1) := by decide +kernel
theorem dX_readyThreads_2 : decode b_X_readyThreads 2 = .ok (.aload_n 0, 1) := by decide +kernel
theorem dX_readyThreads_3 : decode b_X_readyThreads 3 = .ok (.getfield 11, 3) := by decide +kernel
theorem dX_readyThreads_6 : decode b_X_readyThreads 6 = .ok (.astore_n 2, 1) := by decide +kernel
theorem dX_readyThreads_7 : decode b_X_readyThreads 7 = .ok (.aload_n 2, 1) := by decide +kernel
theorem dX_readyThreads_8 : decode b_X_readyThreads 8 = .ok (.arraylength, 1) := by decide +kernel
theorem dX_readyThreads_9 : decode b_X_readyThreads 9 = .ok (.istore_n 3, 1) := by decide +kernel
theorem dX_readyThreads_10 : decode b_X_readyThreads 10 = .ok (.iconst 0, 1) := by decide +kernel
theorem dX_readyThreads_11 : decode b_X_readyThreads 11 = .ok (.istore 4, 2) := by decide +kernel
theorem dX_readyThreads_13 : decode b_X_readyThreads 13 = .ok (.iload 4, 2) := by decide +kernel
theorem dX_readyThreads_15 : decode b_X_readyThreads 15 = .ok (.iload_n 3, 1) := by decide +kernel
theorem dX_readyThreads_16 : decode b_X_readyThreads 16 = .ok (.if_icmp .ge 27, 3) := by decide +kernel
theorem dX_readyThreads_19 : decode b_X_readyThreads 19 = .ok (.aload_n 2, 1) := by decide +kernel
theorem dX_readyThreads_20 : decode b_X_readyThreads 20 = .ok (.iload 4, 2) := by decide +kernel
theorem dX_readyThreads_22 : decode b_X_readyThreads 22 = .ok (.aaload, 1) := by decide +kernel
theorem dX_readyThreads_23 : decode b_X_readyThreads 23 = .ok (.astore 5, 2) := by decide +kernel
theorem dX_readyThreads_25 : decode b_X_readyThreads 25 = .ok (.aload 5, 2) := by decide +kernel
theorem dX_readyThreads_27 : decode b_X_readyThreads 27 = .ok (.getfield 81, 3) := by decide +kernel
theorem dX_readyThreads_30 : decode b_X_readyThreads 30 = .ok (.iconst 1, 1) := by decide +kernel
theorem dX_readyThreads_31 : decode b_X_readyThreads 31 = .ok (.if_icmp .ne 6, 3) := by decide +kernel
theorem dX_readyThreads_34 : decode b_X_readyThreads 34 = .ok (.iinc 1 1, 3) := by decide +kernel
theorem dX_readyThreads_37 : decode b_X_readyThreads 37 = .ok (.iinc 4 1, 3) := by decide +kernel
theorem dX_readyThreads_40 : decode b_X_readyThreads 40 = .ok (.goto (-27), 3) := by decide +kernel
theorem dX_readyThreads_43 : decode b_X_readyThreads 43 = .ok (.iload_n 1, 1) := by decide +kernel
theorem dX_readyThreads_44 : decode b_X_readyThreads 44 = .ok (.ireturn, 1) := by decide +kernel
theorem dX_ownsAny_0 : decode b_X_ownsAny 0 = .ok (.aload_n 0, 1) := by decide +kernel
theorem dX_ownsAny_1 : decode b_X_ownsAny 1 = .ok (.getfield 15, 3) := by decide +kernel
theorem dX_ownsAny_4 : decode b_X_ownsAny 4 = .ok (.astore_n 2, 1) := by decide +kernel
theorem dX_ownsAny_5 : decode b_X_ownsAny 5 = .ok (.aload_n 2, 1) := by decide +kernel
theorem dX_ownsAny_6 : decode b_X_ownsAny 6 = .ok (.arraylength, 1) := by decide +kernel
theorem dX_ownsAny_7 : decode b_X_ownsAny 7 = .ok (.istore_n 3, 1) := by decide +kernel
theorem dX_ownsAny_8 : decode b_X_ownsAny 8 = .ok (.iconst 0, 1) := by decide +kernel
theorem dX_ownsAny_9 : decode b_X_ownsAny 9 = .ok (.istore 4, 2) := by decide +kernel
theorem dX_ownsAny_11 : decode b_X_ownsAny 11 = .ok (.iload 4, 2) := by decide +kernel
theorem dX_ownsAny_13 : decode b_X_ownsAny 13 = .ok (.iload_n 3, 1) := by decide +kernel
theorem dX_ownsAny_14 : decode b_X_ownsAny 14 = .ok (.if_icmp .ge 26, 3) := by decide +kernel
theorem dX_ownsAny_17 : decode b_X_ownsAny 17 = .ok (.aload_n 2, 1) := by decide +kernel
theorem dX_ownsAny_18 : decode b_X_ownsAny 18 = .ok (.iload 4, 2) := by decide +kernel
theorem dX_ownsAny_20 : decode b_X_ownsAny 20 = .ok (.iaload, 1) := by decide +kernel
theorem dX_ownsAny_21 : decode b_X_ownsAny 21 = .ok (.istore 5, 2) := by decide +kernel
theorem dX_ownsAny_23 : decode b_X_ownsAny 23 = .ok (.iload 5, 2) := by decide +kernel
theorem dX_ownsAny_25 : decode b_X_ownsAny 25 = .ok (.aload_n 1, 1) := by decide +kernel
theorem dX_ownsAny_26 : decode b_X_ownsAny 26 = .ok (.getfield 74, 3) := by decide +kernel
theorem dX_ownsAny_29 : decode b_X_ownsAny 29 = .ok (.if_icmp .ne 5, 3) := by decide +kernel
theorem dX_ownsAny_32 : decode b_X_ownsAny 32 = .ok (.iconst 1, 1) := by decide +kernel
theorem dX_ownsAny_33 : decode b_X_ownsAny 33 = .ok (.ireturn, 1) := by decide +kernel
theorem dX_ownsAny_34 : decode b_X_ownsAny 34 = .ok (.iinc 4 1, 3) := by decide +kernel
theorem dX_ownsAny_37 : decode b_X_ownsAny 37 = .ok (.goto (-26), 3) := by decide +kernel
theorem dX_ownsAny_40 : decode b_X_ownsAny 40 = .ok (.iconst 0, 1) := by decide +kernel
theorem dX_ownsAny_41 : decode b_X_ownsAny 41 = .ok (.ireturn, 1) := by decide +kernel
theorem dX_spawn_0 : decode b_X_spawn 0 = .ok (.iload_n 1, 1) := by decide +kernel
theorem dX_spawn_1 : decode b_X_spawn 1 = .ok (.invokestatic 55, 3) := by decide +kernel
theorem dX_spawn_4 : decode b_X_spawn 4 = .ok (.ifCond .ne 5, 3) := by decide +kernel
theorem dX_spawn_7 : decode b_X_spawn 7 = .ok (.iconst (-1), 1) := by decide +kernel
theorem dX_spawn_8 : decode b_X_spawn 8 = .ok (.ireturn, 1) := by decide +kernel
theorem dX_spawn_9 : decode b_X_spawn 9 = .ok (.aload_n 0, 1) := by decide +kernel
theorem dX_spawn_10 : decode b_X_spawn 10 = .ok (.invokevirtual 59, 3) := by decide +kernel
theorem dX_spawn_13 : decode b_X_spawn 13 = .ok (.astore_n 3, 1) := by decide +kernel
theorem dX_spawn_14 : decode b_X_spawn 14 = .ok (.aload_n 3, 1) := by decide +kernel
theorem dX_spawn_15 : decode b_X_spawn 15 = .ok (.ifnonnull 5, 3) := by decide +kernel
theorem dX_spawn_18 : decode b_X_spawn 18 = .ok (.iconst (-1), 1) := by decide +kernel
theorem dX_spawn_19 : decode b_X_spawn 19 = .ok (.ireturn, 1) := by decide +kernel
theorem dX_spawn_20 : decode b_X_spawn 20 = .ok (.aload_n 3, 1) := by decide +kernel
theorem dX_spawn_21 : decode b_X_spawn 21 = .ok (.iload_n 1, 1) := by decide +kernel
theorem dX_spawn_22 : decode b_X_spawn 22 = .ok (.putfield 63, 3) := by decide +kernel
theorem dX_spawn_25 : decode b_X_spawn 25 = .ok (.aload_n 3, 1) := by decide +kernel
theorem dX_spawn_26 : decode b_X_spawn 26 = .ok (.iload_n 2, 1) := by decide +kernel
theorem dX_spawn_27 : decode b_X_spawn 27 = .ok (.putfield 66, 3) := by decide +kernel
theorem dX_spawn_30 : decode b_X_spawn 30 = .ok (.aload_n 0, 1) := by decide +kernel
theorem dX_spawn_31 : decode b_X_spawn 31 = .ok (.aload_n 3, 1) := by decide +kernel
theorem dX_spawn_32 : decode b_X_spawn 32 = .ok (.iconst 0, 1) := by decide +kernel
theorem dX_spawn_33 : decode b_X_spawn 33 = .ok (.invokevirtual 70, 3) := by decide +kernel
theorem dX_spawn_36 : decode b_X_spawn 36 = .ok (.aload_n 3, 1) := by decide +kernel
theorem dX_spawn_37 : decode b_X_spawn 37 = .ok (.getfield 74, 3) := by decide +kernel
theorem dX_spawn_40 : decode b_X_spawn 40 = .ok (.ireturn, 1) := by decide +kernel
theorem dX_priority_0 : decode b_X_priority 0 = .ok (.iload_n 1, 1) := by decide +kernel
theorem dX_priority_1 : decode b_X_priority 1 = .ok (.bipush 8, 2) := by decide +kernel
theorem dX_priority_3 : decode b_X_priority 3 = .ok (.invokestatic 77, 3) := by decide +kernel
theorem dX_priority_6 : decode b_X_priority 6 = .ok (.ifCond .eq 10, 3) := by decide +kernel
theorem dX_priority_9 : decode b_X_priority 9 = .ok (.iload_n 2, 1) := by decide +kernel
theorem dX_priority_10 : decode b_X_priority 10 = .ok (.invokestatic 55, 3) := by decide +kernel
theorem dX_priority_13 : decode b_X_priority 13 = .ok (.ifCond .ne 5, 3) := by decide +kernel
theorem dX_priority_16 : decode b_X_priority 16 = .ok (.iconst (-1), 1) := by decide +kernel
theorem dX_priority_17 : decode b_X_priority 17 = .ok (.ireturn, 1) := by decide +kernel
theorem dX_priority_18 : decode b_X_priority 18 = .ok (.aload_n 0, 1) := by decide +kernel
theorem dX_priority_19 : decode b_X_priority 19 = .ok (.getfield 11, 3) := by decide +kernel
theorem dX_priority_22 : decode b_X_priority 22 = .ok (.iload_n 1, 1) := by decide +kernel
theorem dX_priority_23 : decode b_X_priority 23 = .ok (.aaload, 1) := by decide +kernel
theorem dX_priority_24 : decode b_X_priority 24 = .ok (.astore_n 3, 1) := by decide +kernel
theorem dX_priority_25 : decode b_X_priority 25 = .ok (.aload_n 3, 1) := by decide +kernel
theorem dX_priority_26 : decode b_X_priority 26 = .ok (.getfield 81, 3) := by decide +kernel
theorem dX_priority_29 : decode b_X_priority 29 = .ok (.ifCond .eq 11, 3) := by decide +kernel
theorem dX_priority_32 : decode b_X_priority 32 = .ok (.aload_n 3, 1) := by decide +kernel
theorem dX_priority_33 : decode b_X_priority 33 = .ok (.getfield 81, 3) := by decide +kernel
theorem dX_priority_36 : decode b_X_priority 36 = .ok (.iconst 3, 1) := by decide +kernel
theorem dX_priority_37 : decode b_X_priority 37 = .ok (.if_icmp .ne 5, 3) := by decide +kernel
theorem dX_priority_40 : decode b_X_priority 40 = .ok (.iconst (-1), 1) := by decide +kernel
theorem dX_priority_41 : decode b_X_priority 41 = .ok (.ireturn, 1) := by decide +kernel
theorem dX_priority_42 : decode b_X_priority 42 = .ok (.aload_n 0, 1) := by decide +kernel
theorem dX_priority_43 : decode b_X_priority 43 = .ok (.getfield 15, 3) := by decide +kernel
theorem dX_priority_46 : decode b_X_priority 46 = .ok (.iconst 3, 1) := by decide +kernel
theorem dX_priority_47 : decode b_X_priority 47 = .ok (.iaload, 1) := by decide +kernel
theorem dX_priority_48 : decode b_X_priority 48 = .ok (.iload_n 1, 1) := by decide +kernel
theorem dX_priority_49 : decode b_X_priority 49 = .ok (.if_icmp .ne 13, 3) := by decide +kernel
theorem dX_priority_52 : decode b_X_priority 52 = .ok (.iload_n 2, 1) := by decide +kernel
theorem dX_priority_53 : decode b_X_priority 53 = .ok (.aload_n 0, 1) := by decide +kernel
theorem dX_priority_54 : decode b_X_priority 54 = .ok (.getfield 48, 3) := by decide +kernel
theorem dX_priority_57 : decode b_X_priority 57 = .ok (.if_icmp .le 5, 3) := by decide +kernel
theorem dX_priority_60 : decode b_X_priority 60 = .ok (.iconst (-1), 1) := by decide +kernel
theorem dX_priority_61 : decode b_X_priority 61 = .ok (.ireturn, 1) := by decide +kernel
theorem dX_priority_62 : decode b_X_priority 62 = .ok (.aload_n 3, 1) := by decide +kernel
theorem dX_priority_63 : decode b_X_priority 63 = .ok (.iload_n 2, 1) := by decide +kernel
theorem dX_priority_64 : decode b_X_priority 64 = .ok (.putfield 63, 3) := by decide +kernel
theorem dX_priority_67 : decode b_X_priority 67 = .ok (.aload_n 3, 1) := by decide +kernel
theorem dX_priority_68 : decode b_X_priority 68 = .ok (.getfield 81, 3) := by decide +kernel
theorem dX_priority_71 : decode b_X_priority 71 = .ok (.iconst 1, 1) := by decide +kernel
theorem dX_priority_72 : decode b_X_priority 72 = .ok (.if_icmp .ne 18, 3) := by decide +kernel
theorem dX_priority_75 : decode b_X_priority 75 = .ok (.aload_n 3, 1) := by decide +kernel
theorem dX_priority_76 : decode b_X_priority 76 = .ok (.aload_n 0, 1) := by decide +kernel
theorem dX_priority_77 : decode b_X_priority 77 = .ok (.dup, 1) := by decide +kernel
theorem dX_priority_78 : decode b_X_priority 78 = .ok (.getfield 32, 3) := by decide +kernel
theorem dX_priority_81 : decode b_X_priority 81 = .ok (.lconst 1, 1) := by decide +kernel
theorem dX_priority_82 : decode b_X_priority 82 = .ok (.ladd, 1) := by decide +kernel
theorem dX_priority_83 : decode b_X_priority 83 = .ok (.dup2_x1, 1) := by decide +kernel
theorem dX_priority_84 : decode b_X_priority 84 = .ok (.putfield 32, 3) := by decide +kernel
theorem dX_priority_87 : decode b_X_priority 87 = .ok (.putfield 84, 3) := by decide +kernel
theorem dX_priority_90 : decode b_X_priority 90 = .ok (.iconst 0, 1) := by decide +kernel
theorem dX_priority_91 : decode b_X_priority 91 = .ok (.ireturn, 1) := by decide +kernel
theorem dX_pass_0 : decode b_X_pass 0 = .ok (.aload_n 0, 1) := by decide +kernel
theorem dX_pass_1 : decode b_X_pass 1 = .ok (.invokevirtual 87, 3) := by decide +kernel
theorem dX_pass_4 : decode b_X_pass 4 = .ok (.astore_n 1, 1) := by decide +kernel
theorem dX_pass_5 : decode b_X_pass 5 = .ok (.aload_n 1, 1) := by decide +kernel
theorem dX_pass_6 : decode b_X_pass 6 = .ok (.ifnonnull 5, 3) := by decide +kernel
theorem dX_pass_9 : decode b_X_pass 9 = .ok (.iconst (-1), 1) := by decide +kernel
theorem dX_pass_10 : decode b_X_pass 10 = .ok (.ireturn, 1) := by decide +kernel
theorem dX_pass_11 : decode b_X_pass 11 = .ok (.aload_n 0, 1) := by decide +kernel
theorem dX_pass_12 : decode b_X_pass 12 = .ok (.aload_n 1, 1) := by decide +kernel
theorem dX_pass_13 : decode b_X_pass 13 = .ok (.invokevirtual 90, 3) := by decide +kernel
theorem dX_pass_16 : decode b_X_pass 16 = .ok (.iconst 0, 1) := by decide +kernel
theorem dX_pass_17 : decode b_X_pass 17 = .ok (.ireturn, 1) := by decide +kernel
theorem dX_lock_0 : decode b_X_lock 0 = .ok (.aload_n 0, 1) := by decide +kernel
theorem dX_lock_1 : decode b_X_lock 1 = .ok (.invokevirtual 87, 3) := by decide +kernel
theorem dX_lock_4 : decode b_X_lock 4 = .ok (.astore_n 2, 1) := by decide +kernel
theorem dX_lock_5 : decode b_X_lock 5 = .ok (.iload_n 1, 1) := by decide +kernel
theorem dX_lock_6 : decode b_X_lock 6 = .ok (.iconst 4, 1) := by decide +kernel
theorem dX_lock_7 : decode b_X_lock 7 = .ok (.invokestatic 77, 3) := by decide +kernel
theorem dX_lock_10 : decode b_X_lock 10 = .ok (.ifCond .eq 20, 3) := by decide +kernel
theorem dX_lock_13 : decode b_X_lock 13 = .ok (.aload_n 2, 1) := by decide +kernel
theorem dX_lock_14 : decode b_X_lock 14 = .ok (.ifnull 16, 3) := by decide +kernel
theorem dX_lock_17 : decode b_X_lock 17 = .ok (.aload_n 0, 1) := by decide +kernel
theorem dX_lock_18 : decode b_X_lock 18 = .ok (.getfield 15, 3) := by decide +kernel
theorem dX_lock_21 : decode b_X_lock 21 = .ok (.iload_n 1, 1) := by decide +kernel
theorem dX_lock_22 : decode b_X_lock 22 = .ok (.iaload, 1) := by decide +kernel
theorem dX_lock_23 : decode b_X_lock 23 = .ok (.aload_n 2, 1) := by decide +kernel
theorem dX_lock_24 : decode b_X_lock 24 = .ok (.getfield 74, 3) := by decide +kernel
theorem dX_lock_27 : decode b_X_lock 27 = .ok (.if_icmp .ne 5, 3) := by decide +kernel
theorem dX_lock_30 : decode b_X_lock 30 = .ok (.iconst (-1), 1) := by decide +kernel
theorem dX_lock_31 : decode b_X_lock 31 = .ok (.ireturn, 1) := by decide +kernel
theorem dX_lock_32 : decode b_X_lock 32 = .ok (.iload_n 1, 1) := by decide +kernel
theorem dX_lock_33 : decode b_X_lock 33 = .ok (.iconst 3, 1) := by decide +kernel
theorem dX_lock_34 : decode b_X_lock 34 = .ok (.if_icmp .ne 16, 3) := by decide +kernel
theorem dX_lock_37 : decode b_X_lock 37 = .ok (.aload_n 2, 1) := by decide +kernel
theorem dX_lock_38 : decode b_X_lock 38 = .ok (.getfield 63, 3) := by decide +kernel
theorem dX_lock_41 : decode b_X_lock 41 = .ok (.aload_n 0, 1) := by decide +kernel
theorem dX_lock_42 : decode b_X_lock 42 = .ok (.getfield 48, 3) := by decide +kernel
theorem dX_lock_45 : decode b_X_lock 45 = .ok (.if_icmp .le 5, 3) := by decide +kernel
theorem dX_lock_48 : decode b_X_lock 48 = .ok (.iconst (-1), 1) := by decide +kernel
theorem dX_lock_49 : decode b_X_lock 49 = .ok (.ireturn, 1) := by decide +kernel
theorem dX_lock_50 : decode b_X_lock 50 = .ok (.aload_n 2, 1) := by decide +kernel
theorem dX_lock_51 : decode b_X_lock 51 = .ok (.iconst 0, 1) := by decide +kernel
theorem dX_lock_52 : decode b_X_lock 52 = .ok (.putfield 94, 3) := by decide +kernel
theorem dX_lock_55 : decode b_X_lock 55 = .ok (.aload_n 0, 1) := by decide +kernel
theorem dX_lock_56 : decode b_X_lock 56 = .ok (.aload_n 2, 1) := by decide +kernel
theorem dX_lock_57 : decode b_X_lock 57 = .ok (.iload_n 1, 1) := by decide +kernel
theorem dX_lock_58 : decode b_X_lock 58 = .ok (.invokevirtual 97, 3) := by decide +kernel
theorem dX_lock_61 : decode b_X_lock 61 = .ok (.aload_n 2, 1) := by decide +kernel
theorem dX_lock_62 : decode b_X_lock 62 = .ok (.getfield 81, 3) := by decide +kernel
theorem dX_lock_65 : decode b_X_lock 65 = .ok (.iconst 1, 1) := by decide +kernel
theorem dX_lock_66 : decode b_X_lock 66 = .ok (.if_icmp .ne 7, 3) := by decide +kernel
theorem dX_lock_69 : decode b_X_lock 69 = .ok (.iconst 0, 1) := by decide +kernel
theorem dX_lock_70 : decode b_X_lock 70 = .ok (.goto 4, 3) := by decide +kernel
theorem dX_lock_73 : decode b_X_lock 73 = .ok (.iconst 1, 1) := by decide +kernel
theorem dX_lock_74 : decode b_X_lock 74 = .ok (.ireturn, 1) := by decide +kernel
theorem dX_unlock_0 : decode b_X_unlock 0 = .ok (.aload_n 0, 1) := by decide +kernel
theorem dX_unlock_1 : decode b_X_unlock 1 = .ok (.invokevirtual 87, 3) := by decide +kernel
theorem dX_unlock_4 : decode b_X_unlock 4 = .ok (.astore_n 2, 1) := by decide +kernel
theorem dX_unlock_5 : decode b_X_unlock 5 = .ok (.iload_n 1, 1) := by decide +kernel
theorem dX_unlock_6 : decode b_X_unlock 6 = .ok (.iconst 4, 1) := by decide +kernel
theorem dX_unlock_7 : decode b_X_unlock 7 = .ok (.invokestatic 77, 3) := by decide +kernel
theorem dX_unlock_10 : decode b_X_unlock 10 = .ok (.ifCond .eq 20, 3) := by decide +kernel
theorem dX_unlock_13 : decode b_X_unlock 13 = .ok (.aload_n 2, 1) := by decide +kernel
theorem dX_unlock_14 : decode b_X_unlock 14 = .ok (.ifnull 16, 3) := by decide +kernel
theorem dX_unlock_17 : decode b_X_unlock 17 = .ok (.aload_n 0, 1) := by decide +kernel
theorem dX_unlock_18 : decode b_X_unlock 18 = .ok (.getfield 15, 3) := by decide +kernel
theorem dX_unlock_21 : decode b_X_unlock 21 = .ok (.iload_n 1, 1) := by decide +kernel
theorem dX_unlock_22 : decode b_X_unlock 22 = .ok (.iaload, 1) := by decide +kernel
theorem dX_unlock_23 : decode b_X_unlock 23 = .ok (.aload_n 2, 1) := by decide +kernel
theorem dX_unlock_24 : decode b_X_unlock 24 = .ok (.getfield 74, 3) := by decide +kernel
theorem dX_unlock_27 : decode b_X_unlock 27 = .ok (.if_icmp .eq 5, 3) := by decide +kernel
theorem dX_unlock_30 : decode b_X_unlock 30 = .ok (.iconst (-1), 1) := by decide +kernel
theorem dX_unlock_31 : decode b_X_unlock 31 = .ok (.ireturn, 1) := by decide +kernel
theorem dX_unlock_32 : decode b_X_unlock 32 = .ok (.aload_n 0, 1) := by decide +kernel
theorem dX_unlock_33 : decode b_X_unlock 33 = .ok (.iload_n 1, 1) := by decide +kernel
theorem dX_unlock_34 : decode b_X_unlock 34 = .ok (.invokevirtual 100, 3) := by decide +kernel
theorem dX_unlock_37 : decode b_X_unlock 37 = .ok (.iconst 0, 1) := by decide +kernel
theorem dX_unlock_38 : decode b_X_unlock 38 = .ok (.ireturn, 1) := by decide +kernel
theorem dX_await_0 : decode b_X_await 0 = .ok (.iload_n 1, 1) := by decide +kernel
theorem dX_await_1 : decode b_X_await 1 = .ok (.iconst 2, 1) := by decide +kernel
theorem dX_await_2 : decode b_X_await 2 = .ok (.invokestatic 77, 3) := by decide +kernel
theorem dX_await_5 : decode b_X_await 5 = .ok (.ifCond .eq 18, 3) := by decide +kernel
theorem dX_await_8 : decode b_X_await 8 = .ok (.iload_n 2, 1) := by decide +kernel
theorem dX_await_9 : decode b_X_await 9 = .ok (.iconst 4, 1) := by decide +kernel
theorem dX_await_10 : decode b_X_await 10 = .ok (.invokestatic 77, 3) := by decide +kernel
theorem dX_await_13 : decode b_X_await 13 = .ok (.ifCond .eq 10, 3) := by decide +kernel
theorem dX_await_16 : decode b_X_await 16 = .ok (.iload_n 3, 1) := by decide +kernel
theorem dX_await_17 : decode b_X_await 17 = .ok (.invokestatic 103, 3) := by decide +kernel
theorem dX_await_20 : decode b_X_await 20 = .ok (.ifCond .ne 5, 3) := by decide +kernel
theorem dX_await_23 : decode b_X_await 23 = .ok (.iconst (-1), 1) := by decide +kernel
theorem dX_await_24 : decode b_X_await 24 = .ok (.ireturn, 1) := by decide +kernel
theorem dX_await_25 : decode b_X_await 25 = .ok (.aload_n 0, 1) := by decide +kernel
theorem dX_await_26 : decode b_X_await 26 = .ok (.invokevirtual 87, 3) := by decide +kernel
theorem dX_await_29 : decode b_X_await 29 = .ok (.astore 4, 2) := by decide +kernel
theorem dX_await_31 : decode b_X_await 31 = .ok (.aload 4, 2) := by decide +kernel
theorem dX_await_33 : decode b_X_await 33 = .ok (.ifnull 17, 3) := by decide +kernel
theorem dX_await_36 : decode b_X_await 36 = .ok (.aload_n 0, 1) := by decide +kernel
theorem dX_await_37 : decode b_X_await 37 = .ok (.getfield 15, 3) := by decide +kernel
theorem dX_await_40 : decode b_X_await 40 = .ok (.iload_n 2, 1) := by decide +kernel
theorem dX_await_41 : decode b_X_await 41 = .ok (.iaload, 1) := by decide +kernel
theorem dX_await_42 : decode b_X_await 42 = .ok (.aload 4, 2) := by decide +kernel
theorem dX_await_44 : decode b_X_await 44 = .ok (.getfield 74, 3) := by decide +kernel
theorem dX_await_47 : decode b_X_await 47 = .ok (.if_icmp .eq 5, 3) := by decide +kernel
theorem dX_await_50 : decode b_X_await 50 = .ok (.iconst (-1), 1) := by decide +kernel
theorem dX_await_51 : decode b_X_await 51 = .ok (.ireturn, 1) := by decide +kernel
theorem dX_await_52 : decode b_X_await 52 = .ok (.aload 4, 2) := by decide +kernel
theorem dX_await_54 : decode b_X_await 54 = .ok (.iload_n 2, 1) := by decide +kernel
theorem dX_await_55 : decode b_X_await 55 = .ok (.putfield 106, 3) := by decide +kernel
theorem dX_await_58 : decode b_X_await 58 = .ok (.aload_n 0, 1) := by decide +kernel
theorem dX_await_59 : decode b_X_await 59 = .ok (.aload 4, 2) := by decide +kernel
theorem dX_await_61 : decode b_X_await 61 = .ok (.bipush 20, 2) := by decide +kernel
theorem dX_await_63 : decode b_X_await 63 = .ok (.iload_n 1, 1) := by decide +kernel
theorem dX_await_64 : decode b_X_await 64 = .ok (.iadd, 1) := by decide +kernel
theorem dX_await_65 : decode b_X_await 65 = .ok (.aload_n 0, 1) := by decide +kernel
theorem dX_await_66 : decode b_X_await 66 = .ok (.iload_n 3, 1) := by decide +kernel
theorem dX_await_67 : decode b_X_await 67 = .ok (.invokevirtual 109, 3) := by decide +kernel
theorem dX_await_70 : decode b_X_await 70 = .ok (.invokevirtual 113, 3) := by decide +kernel
theorem dX_await_73 : decode b_X_await 73 = .ok (.aload_n 0, 1) := by decide +kernel
theorem dX_await_74 : decode b_X_await 74 = .ok (.iload_n 2, 1) := by decide +kernel
theorem dX_await_75 : decode b_X_await 75 = .ok (.invokevirtual 100, 3) := by decide +kernel
theorem dX_await_78 : decode b_X_await 78 = .ok (.iconst 1, 1) := by decide +kernel
theorem dX_await_79 : decode b_X_await 79 = .ok (.ireturn, 1) := by decide +kernel
theorem dX_signal_0 : decode b_X_signal 0 = .ok (.iload_n 1, 1) := by decide +kernel
theorem dX_signal_1 : decode b_X_signal 1 = .ok (.iconst 2, 1) := by decide +kernel
theorem dX_signal_2 : decode b_X_signal 2 = .ok (.invokestatic 77, 3) := by decide +kernel
theorem dX_signal_5 : decode b_X_signal 5 = .ok (.ifCond .ne 5, 3) := by decide +kernel
theorem dX_signal_8 : decode b_X_signal 8 = .ok (.iconst (-1), 1) := by decide +kernel
theorem dX_signal_9 : decode b_X_signal 9 = .ok (.ireturn, 1) := by decide +kernel
theorem dX_signal_10 : decode b_X_signal 10 = .ok (.iload_n 2, 1) := by decide +kernel
theorem dX_signal_11 : decode b_X_signal 11 = .ok (.ifCond .eq 8, 3) := by decide +kernel
theorem dX_signal_14 : decode b_X_signal 14 = .ok (.bipush 8, 2) := by decide +kernel
theorem dX_signal_16 : decode b_X_signal 16 = .ok (.goto 4, 3) := by decide +kernel
theorem dX_signal_19 : decode b_X_signal 19 = .ok (.iconst 1, 1) := by decide +kernel
theorem dX_signal_20 : decode b_X_signal 20 = .ok (.istore_n 3, 1) := by decide +kernel
theorem dX_signal_21 : decode b_X_signal 21 = .ok (.iconst 0, 1) := by decide +kernel
theorem dX_signal_22 : decode b_X_signal 22 = .ok (.istore 4, 2) := by decide +kernel
theorem dX_signal_24 : decode b_X_signal 24 = .ok (.iconst 0, 1) := by decide +kernel
theorem dX_signal_25 : decode b_X_signal 25 = .ok (.istore 5, 2) := by decide +kernel
theorem dX_signal_27 : decode b_X_signal 27 = .ok (.iload 5, 2) := by decide +kernel
theorem dX_signal_29 : decode b_X_signal 29 = .ok (.iload_n 3, 1) := by decide +kernel
theorem dX_signal_30 : decode b_X_signal 30 = .ok (.if_icmp .ge 37, 3) := by decide +kernel
theorem dX_signal_33 : decode b_X_signal 33 = .ok (.aload_n 0, 1) := by decide +kernel
theorem dX_signal_34 : decode b_X_signal 34 = .ok (.bipush 20, 2) := by decide +kernel
theorem dX_signal_36 : decode b_X_signal 36 = .ok (.iload_n 1, 1) := by decide +kernel
theorem dX_signal_37 : decode b_X_signal 37 = .ok (.iadd, 1) := by decide +kernel
theorem dX_signal_38 : decode b_X_signal 38 = .ok (.invokevirtual 117, 3) := by decide +kernel
theorem dX_signal_41 : decode b_X_signal 41 = .ok (.astore 6, 2) := by decide +kernel
theorem dX_signal_43 : decode b_X_signal 43 = .ok (.aload 6, 2) := by decide +kernel
theorem dX_signal_45 : decode b_X_signal 45 = .ok (.ifnonnull 6, 3) := by decide +kernel
theorem dX_signal_48 : decode b_X_signal 48 = .ok (.goto 19, 3) := by decide +kernel
theorem dX_signal_51 : decode b_X_signal 51 = .ok (.aload_n 0, 1) := by decide +kernel
theorem dX_signal_52 : decode b_X_signal 52 = .ok (.aload 6, 2) := by decide +kernel
theorem dX_signal_54 : decode b_X_signal 54 = .ok (.iconst 0, 1) := by decide +kernel
theorem dX_signal_55 : decode b_X_signal 55 = .ok (.invokevirtual 121, 3) := by decide +kernel
theorem dX_signal_58 : decode b_X_signal 58 = .ok (.iinc 4 1, 3) := by decide +kernel
theorem dX_signal_61 : decode b_X_signal 61 = .ok (.iinc 5 1, 3) := by decide +kernel
theorem dX_signal_64 : decode b_X_signal 64 = .ok (.goto (-37), 3) := by decide +kernel
theorem dX_signal_67 : decode b_X_signal 67 = .ok (.iload 4, 2) := by decide +kernel
theorem dX_signal_69 : decode b_X_signal 69 = .ok (.ireturn, 1) := by decide +kernel
theorem dX_down_0 : decode b_X_down 0 = .ok (.aload_n 0, 1) := by decide +kernel
theorem dX_down_1 : decode b_X_down 1 = .ok (.invokevirtual 87, 3) := by decide +kernel
theorem dX_down_4 : decode b_X_down 4 = .ok (.astore_n 3, 1) := by decide +kernel
theorem dX_down_5 : decode b_X_down 5 = .ok (.iload_n 1, 1) := by decide +kernel
theorem dX_down_6 : decode b_X_down 6 = .ok (.iconst 2, 1) := by decide +kernel
theorem dX_down_7 : decode b_X_down 7 = .ok (.invokestatic 77, 3) := by decide +kernel
theorem dX_down_10 : decode b_X_down 10 = .ok (.ifCond .eq 14, 3) := by decide +kernel
theorem dX_down_13 : decode b_X_down 13 = .ok (.iload_n 2, 1) := by decide +kernel
theorem dX_down_14 : decode b_X_down 14 = .ok (.invokestatic 103, 3) := by decide +kernel
theorem dX_down_17 : decode b_X_down 17 = .ok (.ifCond .eq 7, 3) := by decide +kernel
theorem dX_down_20 : decode b_X_down 20 = .ok (.aload_n 3, 1) := by decide +kernel
theorem dX_down_21 : decode b_X_down 21 = .ok (.ifnonnull 5, 3) := by decide +kernel
theorem dX_down_24 : decode b_X_down 24 = .ok (.iconst (-1), 1) := by decide +kernel
theorem dX_down_25 : decode b_X_down 25 = .ok (.ireturn, 1) := by decide +kernel
theorem dX_down_26 : decode b_X_down 26 = .ok (.aload_n 0, 1) := by decide +kernel
theorem dX_down_27 : decode b_X_down 27 = .ok (.getfield 19, 3) := by decide +kernel
theorem dX_down_30 : decode b_X_down 30 = .ok (.iload_n 1, 1) := by decide +kernel
theorem dX_down_31 : decode b_X_down 31 = .ok (.iaload, 1) := by decide +kernel
theorem dX_down_32 : decode b_X_down 32 = .ok (.ifCond .ne 19, 3) := by decide +kernel
theorem dX_down_35 : decode b_X_down 35 = .ok (.aload_n 0, 1) := by decide +kernel
theorem dX_down_36 : decode b_X_down 36 = .ok (.aload_n 3, 1) := by decide +kernel
theorem dX_down_37 : decode b_X_down 37 = .ok (.bipush 30, 2) := by decide +kernel
theorem dX_down_39 : decode b_X_down 39 = .ok (.iload_n 1, 1) := by decide +kernel
theorem dX_down_40 : decode b_X_down 40 = .ok (.iadd, 1) := by decide +kernel
theorem dX_down_41 : decode b_X_down 41 = .ok (.aload_n 0, 1) := by decide +kernel
theorem dX_down_42 : decode b_X_down 42 = .ok (.iload_n 2, 1) := by decide +kernel
theorem dX_down_43 : decode b_X_down 43 = .ok (.invokevirtual 109, 3) := by decide +kernel
theorem dX_down_46 : decode b_X_down 46 = .ok (.invokevirtual 113, 3) := by decide +kernel
theorem dX_down_49 : decode b_X_down 49 = .ok (.iconst 1, 1) := by decide +kernel
theorem dX_down_50 : decode b_X_down 50 = .ok (.ireturn, 1) := by decide +kernel
theorem dX_down_51 : decode b_X_down 51 = .ok (.aload_n 0, 1) := by decide +kernel
theorem dX_down_52 : decode b_X_down 52 = .ok (.getfield 19, 3) := by decide +kernel
theorem dX_down_55 : decode b_X_down 55 = .ok (.iload_n 1, 1) := by decide +kernel
theorem dX_down_56 : decode b_X_down 56 = .ok (.dup2, 1) := by decide +kernel
theorem dX_down_57 : decode b_X_down 57 = .ok (.iaload, 1) := by decide +kernel
theorem dX_down_58 : decode b_X_down 58 = .ok (.iconst 1, 1) := by decide +kernel
theorem dX_down_59 : decode b_X_down 59 = .ok (.isub, 1) := by decide +kernel
theorem dX_down_60 : decode b_X_down 60 = .ok (.iastore, 1) := by decide +kernel
theorem dX_down_61 : decode b_X_down 61 = .ok (.aload_n 3, 1) := by decide +kernel
theorem dX_down_62 : decode b_X_down 62 = .ok (.iconst 0, 1) := by decide +kernel
theorem dX_down_63 : decode b_X_down 63 = .ok (.putfield 124, 3) := by decide +kernel
theorem dX_down_66 : decode b_X_down 66 = .ok (.iconst 0, 1) := by decide +kernel
theorem dX_down_67 : decode b_X_down 67 = .ok (.ireturn, 1) := by decide +kernel
theorem dX_post_0 : decode b_X_post 0 = .ok (.iload_n 1, 1) := by decide +kernel
theorem dX_post_1 : decode b_X_post 1 = .ok (.iconst 2, 1) := by decide +kernel
theorem dX_post_2 : decode b_X_post 2 = .ok (.invokestatic 77, 3) := by decide +kernel
theorem dX_post_5 : decode b_X_post 5 = .ok (.ifCond .ne 5, 3) := by decide +kernel
theorem dX_post_8 : decode b_X_post 8 = .ok (.iconst (-1), 1) := by decide +kernel
theorem dX_post_9 : decode b_X_post 9 = .ok (.ireturn, 1) := by decide +kernel
theorem dX_post_10 : decode b_X_post 10 = .ok (.aload_n 0, 1) := by decide +kernel
theorem dX_post_11 : decode b_X_post 11 = .ok (.bipush 30, 2) := by decide +kernel
theorem dX_post_13 : decode b_X_post 13 = .ok (.iload_n 1, 1) := by decide +kernel
theorem dX_post_14 : decode b_X_post 14 = .ok (.iadd, 1) := by decide +kernel
theorem dX_post_15 : decode b_X_post 15 = .ok (.invokevirtual 117, 3) := by decide +kernel
theorem dX_post_18 : decode b_X_post 18 = .ok (.astore_n 2, 1) := by decide +kernel
theorem dX_post_19 : decode b_X_post 19 = .ok (.aload_n 2, 1) := by decide +kernel
theorem dX_post_20 : decode b_X_post 20 = .ok (.ifnull 11, 3) := by decide +kernel
theorem dX_post_23 : decode b_X_post 23 = .ok (.aload_n 0, 1) := by decide +kernel
theorem dX_post_24 : decode b_X_post 24 = .ok (.aload_n 2, 1) := by decide +kernel
theorem dX_post_25 : decode b_X_post 25 = .ok (.iconst 0, 1) := by decide +kernel
theorem dX_post_26 : decode b_X_post 26 = .ok (.invokevirtual 70, 3) := by decide +kernel
theorem dX_post_29 : decode b_X_post 29 = .ok (.iconst 0, 1) := by decide +kernel
theorem dX_post_30 : decode b_X_post 30 = .ok (.ireturn, 1) := by decide +kernel
theorem dX_post_31 : decode b_X_post 31 = .ok (.aload_n 0, 1) := by decide +kernel
theorem dX_post_32 : decode b_X_post 32 = .ok (.getfield 19, 3) := by decide +kernel
theorem dX_post_35 : decode b_X_post 35 = .ok (.iload_n 1, 1) := by decide +kernel
theorem dX_post_36 : decode b_X_post 36 = .ok (.iaload, 1) := by decide +kernel
theorem dX_post_37 : decode b_X_post 37 = .ok (.bipush 99, 2) := by decide +kernel
theorem dX_post_39 : decode b_X_post 39 = .ok (.if_icmp .lt 5, 3) := by decide +kernel
theorem dX_post_42 : decode b_X_post 42 = .ok (.iconst (-1), 1) := by decide +kernel
theorem dX_post_43 : decode b_X_post 43 = .ok (.ireturn, 1) := by decide +kernel
theorem dX_post_44 : decode b_X_post 44 = .ok (.aload_n 0, 1) := by decide +kernel
theorem dX_post_45 : decode b_X_post 45 = .ok (.getfield 19, 3) := by decide +kernel
theorem dX_post_48 : decode b_X_post 48 = .ok (.iload_n 1, 1) := by decide +kernel
theorem dX_post_49 : decode b_X_post 49 = .ok (.dup2, 1) := by decide +kernel
theorem dX_post_50 : decode b_X_post 50 = .ok (.iaload, 1) := by decide +kernel
theorem dX_post_51 : decode b_X_post 51 = .ok (.iconst 1, 1) := by decide +kernel
theorem dX_post_52 : decode b_X_post 52 = .ok (.iadd, 1) := by decide +kernel
theorem dX_post_53 : decode b_X_post 53 = .ok (.iastore, 1) := by decide +kernel
theorem dX_post_54 : decode b_X_post 54 = .ok (.iconst 0, 1) := by decide +kernel
theorem dX_post_55 : decode b_X_post 55 = .ok (.ireturn, 1) := by decide +kernel
theorem dX_send_0 : decode b_X_send 0 = .ok (.aload_n 0, 1) := by decide +kernel
theorem dX_send_1 : decode b_X_send 1 = .ok (.invokevirtual 87, 3) := by decide +kernel
theorem dX_send_4 : decode b_X_send 4 = .ok (.astore 4, 2) := by decide +kernel
theorem dX_send_6 : decode b_X_send 6 = .ok (.iload_n 1, 1) := by decide +kernel
theorem dX_send_7 : decode b_X_send 7 = .ok (.iconst 2, 1) := by decide +kernel
theorem dX_send_8 : decode b_X_send 8 = .ok (.invokestatic 77, 3) := by decide +kernel
theorem dX_send_11 : decode b_X_send 11 = .ok (.ifCond .eq 17, 3) := by decide +kernel
theorem dX_send_14 : decode b_X_send 14 = .ok (.iload_n 2, 1) := by decide +kernel
theorem dX_send_15 : decode b_X_send 15 = .ok (.bipush 10, 2) := by decide +kernel
theorem dX_send_17 : decode b_X_send 17 = .ok (.invokestatic 77, 3) := by decide +kernel
theorem dX_send_20 : decode b_X_send 20 = .ok (.ifCond .eq 8, 3) := by decide +kernel
theorem dX_send_23 : decode b_X_send 23 = .ok (.aload 4, 2) := by decide +kernel
theorem dX_send_25 : decode b_X_send 25 = .ok (.ifnonnull 5, 3) := by decide +kernel
theorem dX_send_28 : decode b_X_send 28 = .ok (.iconst (-1), 1) := by decide +kernel
theorem dX_send_29 : decode b_X_send 29 = .ok (.ireturn, 1) := by decide +kernel
theorem dX_send_30 : decode b_X_send 30 = .ok (.aload_n 0, 1) := by decide +kernel
theorem dX_send_31 : decode b_X_send 31 = .ok (.getfield 24, 3) := by decide +kernel
theorem dX_send_34 : decode b_X_send 34 = .ok (.iload_n 1, 1) := by decide +kernel
theorem dX_send_35 : decode b_X_send 35 = .ok (.aaload, 1) := by decide +kernel
theorem dX_send_36 : decode b_X_send 36 = .ok (.invokevirtual 127, 3) := by decide +kernel
theorem dX_send_39 : decode b_X_send 39 = .ok (.ifCond .eq 30, 3) := by decide +kernel
theorem dX_send_42 : decode b_X_send 42 = .ok (.aload 4, 2) := by decide +kernel
theorem dX_send_44 : decode b_X_send 44 = .ok (.iload_n 2, 1) := by decide +kernel
theorem dX_send_45 : decode b_X_send 45 = .ok (.putfield 131, 3) := by decide +kernel
theorem dX_send_48 : decode b_X_send 48 = .ok (.aload 4, 2) := by decide +kernel
theorem dX_send_50 : decode b_X_send 50 = .ok (.iload_n 3, 1) := by decide +kernel
theorem dX_send_51 : decode b_X_send 51 = .ok (.putfield 134, 3) := by decide +kernel
theorem dX_send_54 : decode b_X_send 54 = .ok (.aload_n 0, 1) := by decide +kernel
theorem dX_send_55 : decode b_X_send 55 = .ok (.aload 4, 2) := by decide +kernel
theorem dX_send_57 : decode b_X_send 57 = .ok (.bipush 40, 2) := by decide +kernel
theorem dX_send_59 : decode b_X_send 59 = .ok (.iload_n 1, 1) := by decide +kernel
theorem dX_send_60 : decode b_X_send 60 = .ok (.iadd, 1) := by decide +kernel
theorem dX_send_61 : decode b_X_send 61 = .ok (.ldc2_w 137, 3) := by decide +kernel
theorem dX_send_64 : decode b_X_send 64 = .ok (.invokevirtual 113, 3) := by decide +kernel
theorem dX_send_67 : decode b_X_send 67 = .ok (.iconst 1, 1) := by decide +kernel
theorem dX_send_68 : decode b_X_send 68 = .ok (.ireturn, 1) := by decide +kernel
theorem dX_send_69 : decode b_X_send 69 = .ok (.aload 4, 2) := by decide +kernel
theorem dX_send_71 : decode b_X_send 71 = .ok (.iconst 0, 1) := by decide +kernel
theorem dX_send_72 : decode b_X_send 72 = .ok (.putfield 124, 3) := by decide +kernel
theorem dX_send_75 : decode b_X_send 75 = .ok (.aload_n 0, 1) := by decide +kernel
theorem dX_send_76 : decode b_X_send 76 = .ok (.iload_n 1, 1) := by decide +kernel
theorem dX_send_77 : decode b_X_send 77 = .ok (.iload_n 2, 1) := by decide +kernel
theorem dX_send_78 : decode b_X_send 78 = .ok (.iload_n 3, 1) := by decide +kernel
theorem dX_send_79 : decode b_X_send 79 = .ok (.invokevirtual 139, 3) := by decide +kernel
theorem dX_send_82 : decode b_X_send 82 = .ok (.iconst 0, 1) := by decide +kernel
theorem dX_send_83 : decode b_X_send 83 = .ok (.ireturn, 1) := by decide +kernel
theorem dX_receive_0 : decode b_X_receive 0 = .ok (.aload_n 0, 1) := by decide +kernel
theorem dX_receive_1 : decode b_X_receive 1 = .ok (.invokevirtual 87, 3) := by decide +kernel
theorem dX_receive_4 : decode b_X_receive 4 = .ok (.astore_n 2, 1) := by decide +kernel
theorem dX_receive_5 : decode b_X_receive 5 = .ok (.iload_n 1, 1) := by decide +kernel
theorem dX_receive_6 : decode b_X_receive 6 = .ok (.iconst 2, 1) := by decide +kernel
theorem dX_receive_7 : decode b_X_receive 7 = .ok (.invokestatic 77, 3) := by decide +kernel
theorem dX_receive_10 : decode b_X_receive 10 = .ok (.ifCond .eq 7, 3) := by decide +kernel
theorem dX_receive_13 : decode b_X_receive 13 = .ok (.aload_n 2, 1) := by decide +kernel
theorem dX_receive_14 : decode b_X_receive 14 = .ok (.ifnonnull 5, 3) := by decide +kernel
theorem dX_receive_17 : decode b_X_receive 17 = .ok (.iconst (-1), 1) := by decide +kernel
theorem dX_receive_18 : decode b_X_receive 18 = .ok (.ireturn, 1) := by decide +kernel
theorem dX_receive_19 : decode b_X_receive 19 = .ok (.aload_n 0, 1) := by decide +kernel
theorem dX_receive_20 : decode b_X_receive 20 = .ok (.getfield 24, 3) := by decide +kernel
theorem dX_receive_23 : decode b_X_receive 23 = .ok (.iload_n 1, 1) := by decide +kernel
theorem dX_receive_24 : decode b_X_receive 24 = .ok (.aaload, 1) := by decide +kernel
theorem dX_receive_25 : decode b_X_receive 25 = .ok (.invokevirtual 143, 3) := by decide +kernel
theorem dX_receive_28 : decode b_X_receive 28 = .ok (.ifCond .eq 17, 3) := by decide +kernel
theorem dX_receive_31 : decode b_X_receive 31 = .ok (.aload_n 0, 1) := by decide +kernel
theorem dX_receive_32 : decode b_X_receive 32 = .ok (.aload_n 2, 1) := by decide +kernel
theorem dX_receive_33 : decode b_X_receive 33 = .ok (.bipush 50, 2) := by decide +kernel
theorem dX_receive_35 : decode b_X_receive 35 = .ok (.iload_n 1, 1) := by decide +kernel
theorem dX_receive_36 : decode b_X_receive 36 = .ok (.iadd, 1) := by decide +kernel
theorem dX_receive_37 : decode b_X_receive 37 = .ok (.ldc2_w 137, 3) := by decide +kernel
theorem dX_receive_40 : decode b_X_receive 40 = .ok (.invokevirtual 113, 3) := by decide +kernel
theorem dX_receive_43 : decode b_X_receive 43 = .ok (.iconst 1, 1) := by decide +kernel
theorem dX_receive_44 : decode b_X_receive 44 = .ok (.ireturn, 1) := by decide +kernel
theorem dX_receive_45 : decode b_X_receive 45 = .ok (.aload_n 2, 1) := by decide +kernel
theorem dX_receive_46 : decode b_X_receive 46 = .ok (.aload_n 0, 1) := by decide +kernel
theorem dX_receive_47 : decode b_X_receive 47 = .ok (.getfield 24, 3) := by decide +kernel
theorem dX_receive_50 : decode b_X_receive 50 = .ok (.iload_n 1, 1) := by decide +kernel
theorem dX_receive_51 : decode b_X_receive 51 = .ok (.aaload, 1) := by decide +kernel
theorem dX_receive_52 : decode b_X_receive 52 = .ok (.invokevirtual 146, 3) := by decide +kernel
theorem dX_receive_55 : decode b_X_receive 55 = .ok (.putfield 124, 3) := by decide +kernel
theorem dX_receive_58 : decode b_X_receive 58 = .ok (.aload_n 0, 1) := by decide +kernel
theorem dX_receive_59 : decode b_X_receive 59 = .ok (.bipush 40, 2) := by decide +kernel
theorem dX_receive_61 : decode b_X_receive 61 = .ok (.iload_n 1, 1) := by decide +kernel
theorem dX_receive_62 : decode b_X_receive 62 = .ok (.iadd, 1) := by decide +kernel
theorem dX_receive_63 : decode b_X_receive 63 = .ok (.invokevirtual 117, 3) := by decide +kernel
theorem dX_receive_66 : decode b_X_receive 66 = .ok (.astore_n 3, 1) := by decide +kernel
theorem dX_receive_67 : decode b_X_receive 67 = .ok (.aload_n 3, 1) := by decide +kernel
theorem dX_receive_68 : decode b_X_receive 68 = .ok (.ifnull 22, 3) := by decide +kernel
theorem dX_receive_71 : decode b_X_receive 71 = .ok (.aload_n 0, 1) := by decide +kernel
theorem dX_receive_72 : decode b_X_receive 72 = .ok (.iload_n 1, 1) := by decide +kernel
theorem dX_receive_73 : decode b_X_receive 73 = .ok (.aload_n 3, 1) := by decide +kernel
theorem dX_receive_74 : decode b_X_receive 74 = .ok (.getfield 131, 3) := by decide +kernel
theorem dX_receive_77 : decode b_X_receive 77 = .ok (.aload_n 3, 1) := by decide +kernel
theorem dX_receive_78 : decode b_X_receive 78 = .ok (.getfield 134, 3) := by decide +kernel
theorem dX_receive_81 : decode b_X_receive 81 = .ok (.invokevirtual 139, 3) := by decide +kernel
theorem dX_receive_84 : decode b_X_receive 84 = .ok (.aload_n 0, 1) := by decide +kernel
theorem dX_receive_85 : decode b_X_receive 85 = .ok (.aload_n 3, 1) := by decide +kernel
theorem dX_receive_86 : decode b_X_receive 86 = .ok (.iconst 0, 1) := by decide +kernel
theorem dX_receive_87 : decode b_X_receive 87 = .ok (.invokevirtual 70, 3) := by decide +kernel
theorem dX_receive_90 : decode b_X_receive 90 = .ok (.iconst 0, 1) := by decide +kernel
theorem dX_receive_91 : decode b_X_receive 91 = .ok (.ireturn, 1) := by decide +kernel
theorem dX_sleep_0 : decode b_X_sleep 0 = .ok (.aload_n 0, 1) := by decide +kernel
theorem dX_sleep_1 : decode b_X_sleep 1 = .ok (.invokevirtual 87, 3) := by decide +kernel
theorem dX_sleep_4 : decode b_X_sleep 4 = .ok (.astore_n 2, 1) := by decide +kernel
theorem dX_sleep_5 : decode b_X_sleep 5 = .ok (.iload_n 1, 1) := by decide +kernel
theorem dX_sleep_6 : decode b_X_sleep 6 = .ok (.iconst 1, 1) := by decide +kernel
theorem dX_sleep_7 : decode b_X_sleep 7 = .ok (.if_icmp .lt 14, 3) := by decide +kernel
theorem dX_sleep_10 : decode b_X_sleep 10 = .ok (.iload_n 1, 1) := by decide +kernel
theorem dX_sleep_11 : decode b_X_sleep 11 = .ok (.sipush 1000, 3) := by decide +kernel
theorem dX_sleep_14 : decode b_X_sleep 14 = .ok (.if_icmp .gt 7, 3) := by decide +kernel
theorem dX_sleep_17 : decode b_X_sleep 17 = .ok (.aload_n 2, 1) := by decide +kernel
theorem dX_sleep_18 : decode b_X_sleep 18 = .ok (.ifnonnull 5, 3) := by decide +kernel
theorem dX_sleep_21 : decode b_X_sleep 21 = .ok (.iconst (-1), 1) := by decide +kernel
theorem dX_sleep_22 : decode b_X_sleep 22 = .ok (.ireturn, 1) := by decide +kernel
theorem dX_sleep_23 : decode b_X_sleep 23 = .ok (.aload_n 0, 1) := by decide +kernel
theorem dX_sleep_24 : decode b_X_sleep 24 = .ok (.aload_n 2, 1) := by decide +kernel
theorem dX_sleep_25 : decode b_X_sleep 25 = .ok (.bipush 60, 2) := by decide +kernel
theorem dX_sleep_27 : decode b_X_sleep 27 = .ok (.aload_n 0, 1) := by decide +kernel
theorem dX_sleep_28 : decode b_X_sleep 28 = .ok (.iload_n 1, 1) := by decide +kernel
theorem dX_sleep_29 : decode b_X_sleep 29 = .ok (.invokevirtual 109, 3) := by decide +kernel
theorem dX_sleep_32 : decode b_X_sleep 32 = .ok (.invokevirtual 113, 3) := by decide +kernel
theorem dX_sleep_35 : decode b_X_sleep 35 = .ok (.iconst 1, 1) := by decide +kernel
theorem dX_sleep_36 : decode b_X_sleep 36 = .ok (.ireturn, 1) := by decide +kernel
theorem dX_join_0 : decode b_X_join 0 = .ok (.aload_n 0, 1) := by decide +kernel
theorem dX_join_1 : decode b_X_join 1 = .ok (.invokevirtual 87, 3) := by decide +kernel
theorem dX_join_4 : decode b_X_join 4 = .ok (.astore_n 2, 1) := by decide +kernel
theorem dX_join_5 : decode b_X_join 5 = .ok (.iload_n 1, 1) := by decide +kernel
theorem dX_join_6 : decode b_X_join 6 = .ok (.bipush 8, 2) := by decide +kernel
theorem dX_join_8 : decode b_X_join 8 = .ok (.invokestatic 77, 3) := by decide +kernel
theorem dX_join_11 : decode b_X_join 11 = .ok (.ifCond .eq 15, 3) := by decide +kernel
theorem dX_join_14 : decode b_X_join 14 = .ok (.aload_n 2, 1) := by decide +kernel
theorem dX_join_15 : decode b_X_join 15 = .ok (.ifnull 11, 3) := by decide +kernel
theorem dX_join_18 : decode b_X_join 18 = .ok (.aload_n 2, 1) := by decide +kernel
theorem dX_join_19 : decode b_X_join 19 = .ok (.getfield 74, 3) := by decide +kernel
theorem dX_join_22 : decode b_X_join 22 = .ok (.iload_n 1, 1) := by decide +kernel
theorem dX_join_23 : decode b_X_join 23 = .ok (.if_icmp .ne 5, 3) := by decide +kernel
theorem dX_join_26 : decode b_X_join 26 = .ok (.iconst (-1), 1) := by decide +kernel
theorem dX_join_27 : decode b_X_join 27 = .ok (.ireturn, 1) := by decide +kernel
theorem dX_join_28 : decode b_X_join 28 = .ok (.aload_n 0, 1) := by decide +kernel
theorem dX_join_29 : decode b_X_join 29 = .ok (.getfield 11, 3) := by decide +kernel
theorem dX_join_32 : decode b_X_join 32 = .ok (.iload_n 1, 1) := by decide +kernel
theorem dX_join_33 : decode b_X_join 33 = .ok (.aaload, 1) := by decide +kernel
theorem dX_join_34 : decode b_X_join 34 = .ok (.astore_n 3, 1) := by decide +kernel
theorem dX_join_35 : decode b_X_join 35 = .ok (.aload_n 3, 1) := by decide +kernel
theorem dX_join_36 : decode b_X_join 36 = .ok (.getfield 81, 3) := by decide +kernel
theorem dX_join_39 : decode b_X_join 39 = .ok (.iconst 3, 1) := by decide +kernel
theorem dX_join_40 : decode b_X_join 40 = .ok (.if_icmp .ne 18, 3) := by decide +kernel
theorem dX_join_43 : decode b_X_join 43 = .ok (.aload_n 2, 1) := by decide +kernel
theorem dX_join_44 : decode b_X_join 44 = .ok (.aload_n 3, 1) := by decide +kernel
theorem dX_join_45 : decode b_X_join 45 = .ok (.getfield 124, 3) := by decide +kernel
theorem dX_join_48 : decode b_X_join 48 = .ok (.putfield 124, 3) := by decide +kernel
theorem dX_join_51 : decode b_X_join 51 = .ok (.aload_n 3, 1) := by decide +kernel
theorem dX_join_52 : decode b_X_join 52 = .ok (.iconst 0, 1) := by decide +kernel
theorem dX_join_53 : decode b_X_join 53 = .ok (.putfield 81, 3) := by decide +kernel
theorem dX_join_56 : decode b_X_join 56 = .ok (.iconst 0, 1) := by decide +kernel
theorem dX_join_57 : decode b_X_join 57 = .ok (.ireturn, 1) := by decide +kernel
theorem dX_join_58 : decode b_X_join 58 = .ok (.aload_n 3, 1) := by decide +kernel
theorem dX_join_59 : decode b_X_join 59 = .ok (.getfield 81, 3) := by decide +kernel
theorem dX_join_62 : decode b_X_join 62 = .ok (.ifCond .eq 14, 3) := by decide +kernel
theorem dX_join_65 : decode b_X_join 65 = .ok (.aload_n 0, 1) := by decide +kernel
theorem dX_join_66 : decode b_X_join 66 = .ok (.bipush 70, 2) := by decide +kernel
theorem dX_join_68 : decode b_X_join 68 = .ok (.iload_n 1, 1) := by decide +kernel
theorem dX_join_69 : decode b_X_join 69 = .ok (.iadd, 1) := by decide +kernel
theorem dX_join_70 : decode b_X_join 70 = .ok (.invokevirtual 117, 3) := by decide +kernel
theorem dX_join_73 : decode b_X_join 73 = .ok (.ifnull 5, 3) := by decide +kernel
theorem dX_join_76 : decode b_X_join 76 = .ok (.iconst (-1), 1) := by decide +kernel
theorem dX_join_77 : decode b_X_join 77 = .ok (.ireturn, 1) := by decide +kernel
theorem dX_join_78 : decode b_X_join 78 = .ok (.aload_n 0, 1) := by decide +kernel
theorem dX_join_79 : decode b_X_join 79 = .ok (.aload_n 2, 1) := by decide +kernel
theorem dX_join_80 : decode b_X_join 80 = .ok (.bipush 70, 2) := by decide +kernel
theorem dX_join_82 : decode b_X_join 82 = .ok (.iload_n 1, 1) := by decide +kernel
theorem dX_join_83 : decode b_X_join 83 = .ok (.iadd, 1) := by decide +kernel
theorem dX_join_84 : decode b_X_join 84 = .ok (.ldc2_w 137, 3) := by decide +kernel
theorem dX_join_87 : decode b_X_join 87 = .ok (.invokevirtual 113, 3) := by decide +kernel
theorem dX_join_90 : decode b_X_join 90 = .ok (.iconst 1, 1) := by decide +kernel
theorem dX_join_91 : decode b_X_join 91 = .ok (.ireturn, 1) := by decide +kernel
theorem dX_exit_0 : decode b_X_exit 0 = .ok (.aload_n 0, 1) := by decide +kernel
theorem dX_exit_1 : decode b_X_exit 1 = .ok (.invokevirtual 87, 3) := by decide +kernel
theorem dX_exit_4 : decode b_X_exit 4 = .ok (.astore_n 2, 1) := by decide +kernel
theorem dX_exit_5 : decode b_X_exit 5 = .ok (.aload_n 2, 1) := by decide +kernel
theorem dX_exit_6 : decode b_X_exit 6 = .ok (.ifnull 11, 3) := by decide +kernel
theorem dX_exit_9 : decode b_X_exit 9 = .ok (.aload_n 0, 1) := by decide +kernel
theorem dX_exit_10 : decode b_X_exit 10 = .ok (.aload_n 2, 1) := by decide +kernel
theorem dX_exit_11 : decode b_X_exit 11 = .ok (.invokevirtual 150, 3) := by decide +kernel
theorem dX_exit_14 : decode b_X_exit 14 = .ok (.ifCond .eq 5, 3) := by decide +kernel
theorem dX_exit_17 : decode b_X_exit 17 = .ok (.iconst (-1), 1) := by decide +kernel
theorem dX_exit_18 : decode b_X_exit 18 = .ok (.ireturn, 1) := by decide +kernel
theorem dX_exit_19 : decode b_X_exit 19 = .ok (.aload_n 0, 1) := by decide +kernel
theorem dX_exit_20 : decode b_X_exit 20 = .ok (.bipush 70, 2) := by decide +kernel
theorem dX_exit_22 : decode b_X_exit 22 = .ok (.aload_n 2, 1) := by decide +kernel
theorem dX_exit_23 : decode b_X_exit 23 = .ok (.getfield 74, 3) := by decide +kernel
theorem dX_exit_26 : decode b_X_exit 26 = .ok (.iadd, 1) := by decide +kernel
theorem dX_exit_27 : decode b_X_exit 27 = .ok (.invokevirtual 117, 3) := by decide +kernel
theorem dX_exit_30 : decode b_X_exit 30 = .ok (.astore_n 3, 1) := by decide +kernel
theorem dX_exit_31 : decode b_X_exit 31 = .ok (.aload_n 3, 1) := by decide +kernel
theorem dX_exit_32 : decode b_X_exit 32 = .ok (.ifnull 17, 3) := by decide +kernel
theorem dX_exit_35 : decode b_X_exit 35 = .ok (.aload_n 0, 1) := by decide +kernel
theorem dX_exit_36 : decode b_X_exit 36 = .ok (.aload_n 3, 1) := by decide +kernel
theorem dX_exit_37 : decode b_X_exit 37 = .ok (.iload_n 1, 1) := by decide +kernel
theorem dX_exit_38 : decode b_X_exit 38 = .ok (.invokevirtual 70, 3) := by decide +kernel
theorem dX_exit_41 : decode b_X_exit 41 = .ok (.aload_n 2, 1) := by decide +kernel
theorem dX_exit_42 : decode b_X_exit 42 = .ok (.iconst 0, 1) := by decide +kernel
theorem dX_exit_43 : decode b_X_exit 43 = .ok (.putfield 81, 3) := by decide +kernel
theorem dX_exit_46 : decode b_X_exit 46 = .ok (.goto 13, 3) := by decide +kernel
theorem dX_exit_49 : decode b_X_exit 49 = .ok (.aload_n 2, 1) := by decide +kernel
theorem dX_exit_50 : decode b_X_exit 50 = .ok (.iload_n 1, 1) := by decide +kernel
theorem dX_exit_51 : decode b_X_exit 51 = .ok (.putfield 124, 3) := by decide +kernel
theorem dX_exit_54 : decode b_X_exit 54 = .ok (.aload_n 2, 1) := by decide +kernel
theorem dX_exit_55 : decode b_X_exit 55 = .ok (.iconst 3, 1) := by decide +kernel
theorem dX_exit_56 : decode b_X_exit 56 = .ok (.putfield 81, 3) := by decide +kernel
theorem dX_exit_59 : decode b_X_exit 59 = .ok (.iconst 0, 1) := by decide +kernel
theorem dX_exit_60 : decode b_X_exit 60 = .ok (.ireturn, 1) := by decide +kernel
theorem dX_running_0 : decode b_X_running 0 = .ok (.aload_n 0, 1) := by decide +kernel
theorem dX_running_1 : decode b_X_running 1 = .ok (.invokevirtual 87, 3) := by decide +kernel
theorem dX_running_4 : decode b_X_running 4 = .ok (.astore_n 1, 1) := by decide +kernel
theorem dX_running_5 : decode b_X_running 5 = .ok (.aload_n 1, 1) := by decide +kernel
theorem dX_running_6 : decode b_X_running 6 = .ok (.ifnonnull 7, 3) := by decide +kernel
theorem dX_running_9 : decode b_X_running 9 = .ok (.iconst (-1), 1) := by decide +kernel
theorem dX_running_10 : decode b_X_running 10 = .ok (.goto 7, 3) := by decide +kernel
theorem dX_running_13 : decode b_X_running 13 = .ok (.aload_n 1, 1) := by decide +kernel
theorem dX_running_14 : decode b_X_running 14 = .ok (.getfield 74, 3) := by decide +kernel
theorem dX_running_17 : decode b_X_running 17 = .ok (.ireturn, 1) := by decide +kernel
theorem dX_tick_0 : decode b_X_tick 0 = .ok (.iload_n 1, 1) := by decide +kernel
theorem dX_tick_1 : decode b_X_tick 1 = .ok (.iconst 1, 1) := by decide +kernel
theorem dX_tick_2 : decode b_X_tick 2 = .ok (.if_icmp .lt 9, 3) := by decide +kernel
theorem dX_tick_5 : decode b_X_tick 5 = .ok (.iload_n 1, 1) := by decide +kernel
theorem dX_tick_6 : decode b_X_tick 6 = .ok (.bipush 100, 2) := by decide +kernel
theorem dX_tick_8 : decode b_X_tick 8 = .ok (.if_icmp .le 5, 3) := by decide +kernel
theorem dX_tick_11 : decode b_X_tick 11 = .ok (.iconst (-1), 1) := by decide +kernel
theorem dX_tick_12 : decode b_X_tick 12 = .ok (.ireturn, 1) := by decide +kernel
theorem dX_tick_13 : decode b_X_tick 13 = .ok (.iconst 0, 1) := by decide +kernel
theorem dX_tick_14 : decode b_X_tick 14 = .ok (.istore_n 2, 1) := by decide +kernel
theorem dX_tick_15 : decode b_X_tick 15 = .ok (.iload_n 2, 1) := by decide +kernel
theorem dX_tick_16 : decode b_X_tick 16 = .ok (.iload_n 1, 1) := by decide +kernel
theorem dX_tick_17 : decode b_X_tick 17 = .ok (.if_icmp .ge 13, 3) := by decide +kernel
theorem dX_tick_20 : decode b_X_tick 20 = .ok (.aload_n 0, 1) := by decide +kernel
theorem dX_tick_21 : decode b_X_tick 21 = .ok (.invokevirtual 154, 3) := by decide +kernel
theorem dX_tick_24 : decode b_X_tick 24 = .ok (.iinc 2 1, 3) := by decide +kernel
theorem dX_tick_27 : decode b_X_tick 27 = .ok (.goto (-12), 3) := by decide +kernel
theorem dX_tick_30 : decode b_X_tick 30 = .ok (.aload_n 0, 1) := by decide +kernel
theorem dX_tick_31 : decode b_X_tick 31 = .ok (.invokevirtual 157, 3) := by decide +kernel
theorem dX_tick_34 : decode b_X_tick 34 = .ok (.ireturn, 1) := by decide +kernel
theorem dX_tell_0 : decode b_X_tell 0 = .ok (.iload_n 1, 1) := by decide +kernel
theorem dX_tell_1 : decode b_X_tell 1 = .ok (.bipush 8, 2) := by decide +kernel
theorem dX_tell_3 : decode b_X_tell 3 = .ok (.invokestatic 77, 3) := by decide +kernel
theorem dX_tell_6 : decode b_X_tell 6 = .ok (.ifCond .ne 7, 3) := by decide +kernel
theorem dX_tell_9 : decode b_X_tell 9 = .ok (.ldc2_w 137, 3) := by decide +kernel
theorem dX_tell_12 : decode b_X_tell 12 = .ok (.lreturn, 1) := by decide +kernel
theorem dX_tell_13 : decode b_X_tell 13 = .ok (.aload_n 0, 1) := by decide +kernel
theorem dX_tell_14 : decode b_X_tell 14 = .ok (.getfield 11, 3) := by decide +kernel
theorem dX_tell_17 : decode b_X_tell 17 = .ok (.iload_n 1, 1) := by decide +kernel
theorem dX_tell_18 : decode b_X_tell 18 = .ok (.aaload, 1) := by decide +kernel
theorem dX_tell_19 : decode b_X_tell 19 = .ok (.astore_n 3, 1) := by decide +kernel
theorem dX_tell_20 : decode b_X_tell 20 = .ok (.iload_n 2, 1) := by decide +kernel
theorem dX_tell_21 : decode b_X_tell 21 = .ok (.ifCond .ne 9, 3) := by decide +kernel
theorem dX_tell_24 : decode b_X_tell 24 = .ok (.aload_n 3, 1) := by decide +kernel
theorem dX_tell_25 : decode b_X_tell 25 = .ok (.getfield 81, 3) := by decide +kernel
theorem dX_tell_28 : decode b_X_tell 28 = .ok (.i2l, 1) := by decide +kernel
theorem dX_tell_29 : decode b_X_tell 29 = .ok (.lreturn, 1) := by decide +kernel
theorem dX_tell_30 : decode b_X_tell 30 = .ok (.aload_n 3, 1) := by decide +kernel
theorem dX_tell_31 : decode b_X_tell 31 = .ok (.getfield 81, 3) := by decide +kernel
theorem dX_tell_34 : decode b_X_tell 34 = .ok (.ifCond .ne 7, 3) := by decide +kernel
theorem dX_tell_37 : decode b_X_tell 37 = .ok (.ldc2_w 137, 3) := by decide +kernel
theorem dX_tell_40 : decode b_X_tell 40 = .ok (.lreturn, 1) := by decide +kernel
theorem dX_tell_41 : decode b_X_tell 41 = .ok (.iload_n 2, 1) := by decide +kernel
theorem dX_tell_42 : decode b_X_tell 42 = .ok (.tableswitch 67 1 5 #[34, 40, 50, 56, 62], 34) := by decide +kernel
theorem dX_tell_76 : decode b_X_tell 76 = .ok (.aload_n 3, 1) := by decide +kernel
theorem dX_tell_77 : decode b_X_tell 77 = .ok (.getfield 63, 3) := by decide +kernel
theorem dX_tell_80 : decode b_X_tell 80 = .ok (.i2l, 1) := by decide +kernel
theorem dX_tell_81 : decode b_X_tell 81 = .ok (.lreturn, 1) := by decide +kernel
theorem dX_tell_82 : decode b_X_tell 82 = .ok (.aload_n 0, 1) := by decide +kernel
theorem dX_tell_83 : decode b_X_tell 83 = .ok (.invokevirtual 160, 3) := by decide +kernel
theorem dX_tell_86 : decode b_X_tell 86 = .ok (.aload_n 3, 1) := by decide +kernel
theorem dX_tell_87 : decode b_X_tell 87 = .ok (.getfield 163, 3) := by decide +kernel
theorem dX_tell_90 : decode b_X_tell 90 = .ok (.i2l, 1) := by decide +kernel
theorem dX_tell_91 : decode b_X_tell 91 = .ok (.lreturn, 1) := by decide +kernel
theorem dX_tell_92 : decode b_X_tell 92 = .ok (.aload_n 3, 1) := by decide +kernel
theorem dX_tell_93 : decode b_X_tell 93 = .ok (.getfield 124, 3) := by decide +kernel
theorem dX_tell_96 : decode b_X_tell 96 = .ok (.i2l, 1) := by decide +kernel
theorem dX_tell_97 : decode b_X_tell 97 = .ok (.lreturn, 1) := by decide +kernel
theorem dX_tell_98 : decode b_X_tell 98 = .ok (.aload_n 3, 1) := by decide +kernel
theorem dX_tell_99 : decode b_X_tell 99 = .ok (.getfield 166, 3) := by decide +kernel
theorem dX_tell_102 : decode b_X_tell 102 = .ok (.i2l, 1) := by decide +kernel
theorem dX_tell_103 : decode b_X_tell 103 = .ok (.lreturn, 1) := by decide +kernel
theorem dX_tell_104 : decode b_X_tell 104 = .ok (.aload_n 3, 1) := by decide +kernel
theorem dX_tell_105 : decode b_X_tell 105 = .ok (.getfield 169, 3) := by decide +kernel
theorem dX_tell_108 : decode b_X_tell 108 = .ok (.lreturn, 1) := by decide +kernel
theorem dX_tell_109 : decode b_X_tell 109 = .ok (.ldc2_w 137, 3) := by decide +kernel
theorem dX_tell_112 : decode b_X_tell 112 = .ok (.lreturn, 1) := by decide +kernel
theorem dX_owner_0 : decode b_X_owner 0 = .ok (.iload_n 1, 1) := by decide +kernel
theorem dX_owner_1 : decode b_X_owner 1 = .ok (.iconst 4, 1) := by decide +kernel
theorem dX_owner_2 : decode b_X_owner 2 = .ok (.invokestatic 77, 3) := by decide +kernel
theorem dX_owner_5 : decode b_X_owner 5 = .ok (.ifCond .eq 12, 3) := by decide +kernel
theorem dX_owner_8 : decode b_X_owner 8 = .ok (.aload_n 0, 1) := by decide +kernel
theorem dX_owner_9 : decode b_X_owner 9 = .ok (.getfield 15, 3) := by decide +kernel
theorem dX_owner_12 : decode b_X_owner 12 = .ok (.iload_n 1, 1) := by decide +kernel
theorem dX_owner_13 : decode b_X_owner 13 = .ok (.iaload, 1) := by decide +kernel
theorem dX_owner_14 : decode b_X_owner 14 = .ok (.goto 4, 3) := by decide +kernel
theorem dX_owner_17 : decode b_X_owner 17 = .ok (.iconst (-1), 1) := by decide +kernel
theorem dX_owner_18 : decode b_X_owner 18 = .ok (.ireturn, 1) := by decide +kernel
theorem dX_count_0 : decode b_X_count 0 = .ok (.iload_n 1, 1) := by decide +kernel
theorem dX_count_1 : decode b_X_count 1 = .ok (.tableswitch 68 0 5 #[39, 39, 46, 46, 58, 63], 39) := by decide +kernel
theorem dX_count_40 : decode b_X_count 40 = .ok (.aload_n 0, 1) := by decide +kernel
theorem dX_count_41 : decode b_X_count 41 = .ok (.getfield 19, 3) := by decide +kernel
theorem dX_count_44 : decode b_X_count 44 = .ok (.iload_n 1, 1) := by decide +kernel
theorem dX_count_45 : decode b_X_count 45 = .ok (.iaload, 1) := by decide +kernel
theorem dX_count_46 : decode b_X_count 46 = .ok (.ireturn, 1) := by decide +kernel
theorem dX_count_47 : decode b_X_count 47 = .ok (.aload_n 0, 1) := by decide +kernel
theorem dX_count_48 : decode b_X_count 48 = .ok (.getfield 24, 3) := by decide +kernel
theorem dX_count_51 : decode b_X_count 51 = .ok (.iload_n 1, 1) := by decide +kernel
theorem dX_count_52 : decode b_X_count 52 = .ok (.iconst 2, 1) := by decide +kernel
theorem dX_count_53 : decode b_X_count 53 = .ok (.isub, 1) := by decide +kernel
theorem dX_count_54 : decode b_X_count 54 = .ok (.aaload, 1) := by decide +kernel
theorem dX_count_55 : decode b_X_count 55 = .ok (.getfield 172, 3) := by decide +kernel
theorem dX_count_58 : decode b_X_count 58 = .ok (.ireturn, 1) := by decide +kernel
theorem dX_count_59 : decode b_X_count 59 = .ok (.aload_n 0, 1) := by decide +kernel
theorem dX_count_60 : decode b_X_count 60 = .ok (.getfield 28, 3) := by decide +kernel
theorem dX_count_63 : decode b_X_count 63 = .ok (.ireturn, 1) := by decide +kernel
theorem dX_count_64 : decode b_X_count 64 = .ok (.aload_n 0, 1) := by decide +kernel
theorem dX_count_65 : decode b_X_count 65 = .ok (.invokevirtual 175, 3) := by decide +kernel
theorem dX_count_68 : decode b_X_count 68 = .ok (.ireturn, 1) := by decide +kernel
theorem dX_count_69 : decode b_X_count 69 = .ok (.iconst (-1), 1) := by decide +kernel
theorem dX_count_70 : decode b_X_count 70 = .ok (.ireturn, 1) := by decide +kernel
theorem dX_init_0 : decode b_X_init 0 = .ok (.aload_n 0, 1) := by decide +kernel
theorem dX_init_1 : decode b_X_init 1 = .ok (.invokespecial 1, 3) := by decide +kernel
theorem dX_init_4 : decode b_X_init 4 = .ok (.aload_n 0, 1) := by decide +kernel
theorem dX_init_5 : decode b_X_init 5 = .ok (.bipush 8, 2) := by decide +kernel
theorem dX_init_7 : decode b_X_init 7 = .ok (.anewarray 9, 3) := by decide +kernel
theorem dX_init_10 : decode b_X_init 10 = .ok (.putfield 11, 3) := by decide +kernel
theorem dX_init_13 : decode b_X_init 13 = .ok (.aload_n 0, 1) := by decide +kernel
theorem dX_init_14 : decode b_X_init 14 = .ok (.iconst 4, 1) := by decide +kernel
theorem dX_init_15 : decode b_X_init 15 = .ok (.newarray .int, 2) := by decide +kernel
theorem dX_init_17 : decode b_X_init 17 = .ok (.putfield 15, 3) := by decide +kernel
theorem dX_init_20 : decode b_X_init 20 = .ok (.aload_n 0, 1) := by decide +kernel
theorem dX_init_21 : decode b_X_init 21 = .ok (.iconst 2, 1) := by decide +kernel
theorem dX_init_22 : decode b_X_init 22 = .ok (.newarray .int, 2) := by decide +kernel
theorem dX_init_24 : decode b_X_init 24 = .ok (.putfield 19, 3) := by decide +kernel
theorem dX_init_27 : decode b_X_init 27 = .ok (.aload_n 0, 1) := by decide +kernel
theorem dX_init_28 : decode b_X_init 28 = .ok (.iconst 2, 1) := by decide +kernel
theorem dX_init_29 : decode b_X_init 29 = .ok (.anewarray 22, 3) := by decide +kernel
theorem dX_init_32 : decode b_X_init 32 = .ok (.putfield 24, 3) := by decide +kernel
theorem dX_init_35 : decode b_X_init 35 = .ok (.aload_n 0, 1) := by decide +kernel
theorem dX_init_36 : decode b_X_init 36 = .ok (.iconst 0, 1) := by decide +kernel
theorem dX_init_37 : decode b_X_init 37 = .ok (.putfield 28, 3) := by decide +kernel
theorem dX_init_40 : decode b_X_init 40 = .ok (.aload_n 0, 1) := by decide +kernel
theorem dX_init_41 : decode b_X_init 41 = .ok (.lconst 0, 1) := by decide +kernel
theorem dX_init_42 : decode b_X_init 42 = .ok (.putfield 32, 3) := by decide +kernel
theorem dX_init_45 : decode b_X_init 45 = .ok (.aload_n 0, 1) := by decide +kernel
theorem dX_init_46 : decode b_X_init 46 = .ok (.iconst 1, 1) := by decide +kernel
theorem dX_init_47 : decode b_X_init 47 = .ok (.bipush 20, 2) := by decide +kernel
theorem dX_init_49 : decode b_X_init 49 = .ok (.iload_n 1, 1) := by decide +kernel
theorem dX_init_50 : decode b_X_init 50 = .ok (.invokestatic 36, 3) := by decide +kernel
theorem dX_init_53 : decode b_X_init 53 = .ok (.invokestatic 42, 3) := by decide +kernel
theorem dX_init_56 : decode b_X_init 56 = .ok (.putfield 45, 3) := by decide +kernel
theorem dX_init_59 : decode b_X_init 59 = .ok (.aload_n 0, 1) := by decide +kernel
theorem dX_init_60 : decode b_X_init 60 = .ok (.iconst 1, 1) := by decide +kernel
theorem dX_init_61 : decode b_X_init 61 = .ok (.bipush 31, 2) := by decide +kernel
theorem dX_init_63 : decode b_X_init 63 = .ok (.iload_n 2, 1) := by decide +kernel
theorem dX_init_64 : decode b_X_init 64 = .ok (.invokestatic 36, 3) := by decide +kernel
theorem dX_init_67 : decode b_X_init 67 = .ok (.invokestatic 42, 3) := by decide +kernel
theorem dX_init_70 : decode b_X_init 70 = .ok (.putfield 48, 3) := by decide +kernel
theorem dX_init_73 : decode b_X_init 73 = .ok (.iconst 0, 1) := by decide +kernel
theorem dX_init_74 : decode b_X_init 74 = .ok (.istore_n 3, 1) := by decide +kernel
theorem dX_init_75 : decode b_X_init 75 = .ok (.iload_n 3, 1) := by decide +kernel
theorem dX_init_76 : decode b_X_init 76 = .ok (.bipush 8, 2) := by decide +kernel
theorem dX_init_78 : decode b_X_init 78 = .ok (.if_icmp .ge 23, 3) := by decide +kernel
theorem dX_init_81 : decode b_X_init 81 = .ok (.aload_n 0, 1) := by decide +kernel
theorem dX_init_82 : decode b_X_init 82 = .ok (.getfield 11, 3) := by decide +kernel
theorem dX_init_85 : decode b_X_init 85 = .ok (.iload_n 3, 1) := by decide +kernel
theorem dX_init_86 : decode b_X_init 86 = .ok (.new 9, 3) := by decide +kernel
theorem dX_init_89 : decode b_X_init 89 = .ok (.dup, 1) := by decide +kernel
theorem dX_init_90 : decode b_X_init 90 = .ok (.iload_n 3, 1) := by decide +kernel
theorem dX_init_91 : decode b_X_init 91 = .ok (.invokespecial 51, 3) := by decide +kernel
theorem dX_init_94 : decode b_X_init 94 = .ok (.aastore, 1) := by decide +kernel
theorem dX_init_95 : decode b_X_init 95 = .ok (.iinc 3 1, 3) := by decide +kernel
theorem dX_init_98 : decode b_X_init 98 = .ok (.goto (-23), 3) := by decide +kernel
theorem dX_init_101 : decode b_X_init 101 = .ok (.iconst 0, 1) := by decide +kernel
theorem dX_init_102 : decode b_X_init 102 = .ok (.istore_n 3, 1) := by decide +kernel
theorem dX_init_103 : decode b_X_init 103 = .ok (.iload_n 3, 1) := by decide +kernel
theorem dX_init_104 : decode b_X_init 104 = .ok (.iconst 4, 1) := by decide +kernel
theorem dX_init_105 : decode b_X_init 105 = .ok (.if_icmp .ge 16, 3) := by decide +kernel
theorem dX_init_108 : decode b_X_init 108 = .ok (.aload_n 0, 1) := by decide +kernel
theorem dX_init_109 : decode b_X_init 109 = .ok (.getfield 15, 3) := by decide +kernel
theorem dX_init_112 : decode b_X_init 112 = .ok (.iload_n 3, 1) := by decide +kernel
theorem dX_init_113 : decode b_X_init 113 = .ok (.iconst (-1), 1) := by decide +kernel
theorem dX_init_114 : decode b_X_init 114 = .ok (.iastore, 1) := by decide +kernel
theorem dX_init_115 : decode b_X_init 115 = .ok (.iinc 3 1, 3) := by decide +kernel
theorem dX_init_118 : decode b_X_init 118 = .ok (.goto (-15), 3) := by decide +kernel
theorem dX_init_121 : decode b_X_init 121 = .ok (.iconst 0, 1) := by decide +kernel
theorem dX_init_122 : decode b_X_init 122 = .ok (.istore_n 3, 1) := by decide +kernel
theorem dX_init_123 : decode b_X_init 123 = .ok (.iload_n 3, 1) := by decide +kernel
theorem dX_init_124 : decode b_X_init 124 = .ok (.iconst 2, 1) := by decide +kernel
theorem dX_init_125 : decode b_X_init 125 = .ok (.if_icmp .ge 22, 3) := by decide +kernel
theorem dX_init_128 : decode b_X_init 128 = .ok (.aload_n 0, 1) := by decide +kernel
theorem dX_init_129 : decode b_X_init 129 = .ok (.getfield 24, 3) := by decide +kernel
theorem dX_init_132 : decode b_X_init 132 = .ok (.iload_n 3, 1) := by decide +kernel
theorem dX_init_133 : decode b_X_init 133 = .ok (.new 22, 3) := by decide +kernel
theorem dX_init_136 : decode b_X_init 136 = .ok (.dup, 1) := by decide +kernel
theorem dX_init_137 : decode b_X_init 137 = .ok (.invokespecial 54, 3) := by decide +kernel
theorem dX_init_140 : decode b_X_init 140 = .ok (.aastore, 1) := by decide +kernel
theorem dX_init_141 : decode b_X_init 141 = .ok (.iinc 3 1, 3) := by decide +kernel
theorem dX_init_144 : decode b_X_init 144 = .ok (.goto (-21), 3) := by decide +kernel
theorem dX_init_147 : decode b_X_init 147 = .ok (.return_, 1) := by decide +kernel
theorem dT_init_0 : decode b_T_init 0 = .ok (.aload_n 0, 1) := by decide +kernel
theorem dT_init_1 : decode b_T_init 1 = .ok (.invokespecial 3, 3) := by decide +kernel
theorem dT_init_4 : decode b_T_init 4 = .ok (.aload_n 0, 1) := by decide +kernel
theorem dT_init_5 : decode b_T_init 5 = .ok (.iconst 0, 1) := by decide +kernel
theorem dT_init_6 : decode b_T_init 6 = .ok (.putfield 9, 3) := by decide +kernel
theorem dT_init_9 : decode b_T_init 9 = .ok (.aload_n 0, 1) := by decide +kernel
theorem dT_init_10 : decode b_T_init 10 = .ok (.iconst 1, 1) := by decide +kernel
theorem dT_init_11 : decode b_T_init 11 = .ok (.putfield 15, 3) := by decide +kernel
theorem dT_init_14 : decode b_T_init 14 = .ok (.aload_n 0, 1) := by decide +kernel
theorem dT_init_15 : decode b_T_init 15 = .ok (.iconst 1, 1) := by decide +kernel
theorem dT_init_16 : decode b_T_init 16 = .ok (.putfield 18, 3) := by decide +kernel
theorem dT_init_19 : decode b_T_init 19 = .ok (.aload_n 0, 1) := by decide +kernel
theorem dT_init_20 : decode b_T_init 20 = .ok (.iconst 0, 1) := by decide +kernel
theorem dT_init_21 : decode b_T_init 21 = .ok (.putfield 21, 3) := by decide +kernel
theorem dT_init_24 : decode b_T_init 24 = .ok (.aload_n 0, 1) := by decide +kernel
theorem dT_init_25 : decode b_T_init 25 = .ok (.iconst 0, 1) := by decide +kernel
theorem dT_init_26 : decode b_T_init 26 = .ok (.putfield 25, 3) := by decide +kernel
theorem dT_init_29 : decode b_T_init 29 = .ok (.aload_n 0, 1) := by decide +kernel
theorem dT_init_30 : decode b_T_init 30 = .ok (.iconst 0, 1) := by decide +kernel
theorem dT_init_31 : decode b_T_init 31 = .ok (.putfield 28, 3) := by decide +kernel
theorem dT_init_34 : decode b_T_init 34 = .ok (.aload_n 0, 1) := by decide +kernel
theorem dT_init_35 : decode b_T_init 35 = .ok (.lconst 0, 1) := by decide +kernel
theorem dT_init_36 : decode b_T_init 36 = .ok (.putfield 31, 3) := by decide +kernel
theorem dT_init_39 : decode b_T_init 39 = .ok (.aload_n 0, 1) := by decide +kernel
theorem dT_init_40 : decode b_T_init 40 = .ok (.iconst 0, 1) := by decide +kernel
theorem dT_init_41 : decode b_T_init 41 = .ok (.putfield 35, 3) := by decide +kernel
theorem dT_init_44 : decode b_T_init 44 = .ok (.aload_n 0, 1) := by decide +kernel
theorem dT_init_45 : decode b_T_init 45 = .ok (.ldc2_w 38, 3) := by decide +kernel
theorem dT_init_48 : decode b_T_init 48 = .ok (.putfield 40, 3) := by decide +kernel
theorem dT_init_51 : decode b_T_init 51 = .ok (.aload_n 0, 1) := by decide +kernel
theorem dT_init_52 : decode b_T_init 52 = .ok (.iconst 0, 1) := by decide +kernel
theorem dT_init_53 : decode b_T_init 53 = .ok (.putfield 43, 3) := by decide +kernel
theorem dT_init_56 : decode b_T_init 56 = .ok (.aload_n 0, 1) := by decide +kernel
theorem dT_init_57 : decode b_T_init 57 = .ok (.iconst 0, 1) := by decide +kernel
theorem dT_init_58 : decode b_T_init 58 = .ok (.putfield 46, 3) := by decide +kernel
theorem dT_init_61 : decode b_T_init 61 = .ok (.aload_n 0, 1) := by decide +kernel
theorem dT_init_62 : decode b_T_init 62 = .ok (.iconst 0, 1) := by decide +kernel
theorem dT_init_63 : decode b_T_init 63 = .ok (.putfield 49, 3) := by decide +kernel
theorem dT_init_66 : decode b_T_init 66 = .ok (.aload_n 0, 1) := by decide +kernel
theorem dT_init_67 : decode b_T_init 67 = .ok (.iconst 0, 1) := by decide +kernel
theorem dT_init_68 : decode b_T_init 68 = .ok (.putfield 52, 3) := by decide +kernel
theorem dT_init_71 : decode b_T_init 71 = .ok (.aload_n 0, 1) := by decide +kernel
theorem dT_init_72 : decode b_T_init 72 = .ok (.iload_n 1, 1) := by decide +kernel
theorem dT_init_73 : decode b_T_init 73 = .ok (.putfield 55, 3) := by decide +kernel
theorem dT_init_76 : decode b_T_init 76 = .ok (.return_, 1) := by decide +kernel
theorem dQ_init_0 : decode b_Q_init 0 = .ok (.aload_n 0, 1) := by decide +kernel
theorem dQ_init_1 : decode b_Q_init 1 = .ok (.invokespecial 3, 3) := by decide +kernel
theorem dQ_init_4 : decode b_Q_init 4 = .ok (.aload_n 0, 1) := by decide +kernel
theorem dQ_init_5 : decode b_Q_init 5 = .ok (.iconst 4, 1) := by decide +kernel
theorem dQ_init_6 : decode b_Q_init 6 = .ok (.newarray .int, 2) := by decide +kernel
theorem dQ_init_8 : decode b_Q_init 8 = .ok (.putfield 9, 3) := by decide +kernel
theorem dQ_init_11 : decode b_Q_init 11 = .ok (.aload_n 0, 1) := by decide +kernel
theorem dQ_init_12 : decode b_Q_init 12 = .ok (.iconst 4, 1) := by decide +kernel
theorem dQ_init_13 : decode b_Q_init 13 = .ok (.newarray .int, 2) := by decide +kernel
theorem dQ_init_15 : decode b_Q_init 15 = .ok (.putfield 15, 3) := by decide +kernel
theorem dQ_init_18 : decode b_Q_init 18 = .ok (.aload_n 0, 1) := by decide +kernel
theorem dQ_init_19 : decode b_Q_init 19 = .ok (.iconst 0, 1) := by decide +kernel
theorem dQ_init_20 : decode b_Q_init 20 = .ok (.putfield 18, 3) := by decide +kernel
theorem dQ_init_23 : decode b_Q_init 23 = .ok (.return_, 1) := by decide +kernel
end
section
theorem dM_out_0 : decode b_M_out 0 = .ok (.iload_n 1, 1) := by decide +kernel
theorem dM_out_1 : decode b_M_out 1 = .ok (.ifCond .lt 8, 3) := by decide +kernel
theorem dM_out_4 : decode b_M_out 4 = .ok (.iload_n 1, 1) := by decide +kernel
theorem dM_out_5 : decode b_M_out 5 = .ok (.iload_n 2, 1) := by decide +kernel
theorem dM_out_6 : decode b_M_out 6 = .ok (.if_icmp .lt 7, 3) := by decide +kernel
theorem dM_out_9 : decode b_M_out 9 = .ok (.iconst 1, 1) := by decide +kernel
theorem dM_out_10 : decode b_M_out 10 = .ok (.goto 4, 3) := by decide +kernel
theorem dM_out_13 : decode b_M_out 13 = .ok (.iconst 0, 1) := by decide +kernel
theorem dM_out_14 : decode b_M_out 14 = .ok (.ireturn, 1) := by decide +kernel
theorem dM_newStamp_0 : decode b_M_newStamp 0 = .ok (.aload_n 0, 1) := by decide +kernel
theorem dM_newStamp_1 : decode b_M_newStamp 1 = .ok (.dup, 1) := by decide +kernel
theorem dM_newStamp_2 : decode b_M_newStamp 2 = .ok (.getfield 13, 3) := by decide +kernel
theorem dM_newStamp_5 : decode b_M_newStamp 5 = .ok (.iconst 1, 1) := by decide +kernel
theorem dM_newStamp_6 : decode b_M_newStamp 6 = .ok (.iadd, 1) := by decide +kernel
theorem dM_newStamp_7 : decode b_M_newStamp 7 = .ok (.putfield 13, 3) := by decide +kernel
theorem dM_newStamp_10 : decode b_M_newStamp 10 = .ok (.aload_n 0, 1) := by decide +kernel
theorem dM_newStamp_11 : decode b_M_newStamp 11 = .ok (.getfield 13, 3) := by decide +kernel
theorem dM_newStamp_14 : decode b_M_newStamp 14 = .ok (.ireturn, 1) := by decide +kernel
theorem dM_ready_0 : decode b_M_ready 0 = .ok (.aload_n 0, 1) := by decide +kernel
theorem dM_ready_1 : decode b_M_ready 1 = .ok (.getfield 16, 3) := by decide +kernel
theorem dM_ready_4 : decode b_M_ready 4 = .ok (.iload_n 1, 1) := by decide +kernel
theorem dM_ready_5 : decode b_M_ready 5 = .ok (.iconst 1, 1) := by decide +kernel
theorem dM_ready_6 : decode b_M_ready 6 = .ok (.iastore, 1) := by decide +kernel
theorem dM_ready_7 : decode b_M_ready 7 = .ok (.aload_n 0, 1) := by decide +kernel
theorem dM_ready_8 : decode b_M_ready 8 = .ok (.getfield 29, 3) := by decide +kernel
theorem dM_ready_11 : decode b_M_ready 11 = .ok (.iload_n 1, 1) := by decide +kernel
theorem dM_ready_12 : decode b_M_ready 12 = .ok (.iconst 0, 1) := by decide +kernel
theorem dM_ready_13 : decode b_M_ready 13 = .ok (.iastore, 1) := by decide +kernel
theorem dM_ready_14 : decode b_M_ready 14 = .ok (.aload_n 0, 1) := by decide +kernel
theorem dM_ready_15 : decode b_M_ready 15 = .ok (.getfield 35, 3) := by decide +kernel
theorem dM_ready_18 : decode b_M_ready 18 = .ok (.iload_n 1, 1) := by decide +kernel
theorem dM_ready_19 : decode b_M_ready 19 = .ok (.iconst 0, 1) := by decide +kernel
theorem dM_ready_20 : decode b_M_ready 20 = .ok (.iastore, 1) := by decide +kernel
theorem dM_ready_21 : decode b_M_ready 21 = .ok (.aload_n 0, 1) := by decide +kernel
theorem dM_ready_22 : decode b_M_ready 22 = .ok (.getfield 23, 3) := by decide +kernel
theorem dM_ready_25 : decode b_M_ready 25 = .ok (.iload_n 1, 1) := by decide +kernel
theorem dM_ready_26 : decode b_M_ready 26 = .ok (.aload_n 0, 1) := by decide +kernel
theorem dM_ready_27 : decode b_M_ready 27 = .ok (.invokevirtual 81, 3) := by decide +kernel
theorem dM_ready_30 : decode b_M_ready 30 = .ok (.iastore, 1) := by decide +kernel
theorem dM_ready_31 : decode b_M_ready 31 = .ok (.aload_n 0, 1) := by decide +kernel
theorem dM_ready_32 : decode b_M_ready 32 = .ok (.getfield 26, 3) := by decide +kernel
theorem dM_ready_35 : decode b_M_ready 35 = .ok (.iload_n 1, 1) := by decide +kernel
theorem dM_ready_36 : decode b_M_ready 36 = .ok (.iconst 0, 1) := by decide +kernel
theorem dM_ready_37 : decode b_M_ready 37 = .ok (.iastore, 1) := by decide +kernel
theorem dM_ready_38 : decode b_M_ready 38 = .ok (.return_, 1) := by decide +kernel
theorem dM_block_0 : decode b_M_block 0 = .ok (.aload_n 0, 1) := by decide +kernel
theorem dM_block_1 : decode b_M_block 1 = .ok (.getfield 16, 3) := by decide +kernel
theorem dM_block_4 : decode b_M_block 4 = .ok (.iload_n 1, 1) := by decide +kernel
theorem dM_block_5 : decode b_M_block 5 = .ok (.iconst 2, 1) := by decide +kernel
theorem dM_block_6 : decode b_M_block 6 = .ok (.iastore, 1) := by decide +kernel
theorem dM_block_7 : decode b_M_block 7 = .ok (.aload_n 0, 1) := by decide +kernel
theorem dM_block_8 : decode b_M_block 8 = .ok (.getfield 29, 3) := by decide +kernel
theorem dM_block_11 : decode b_M_block 11 = .ok (.iload_n 1, 1) := by decide +kernel
theorem dM_block_12 : decode b_M_block 12 = .ok (.iload_n 2, 1) := by decide +kernel
theorem dM_block_13 : decode b_M_block 13 = .ok (.iastore, 1) := by decide +kernel
theorem dM_block_14 : decode b_M_block 14 = .ok (.aload_n 0, 1) := by decide +kernel
theorem dM_block_15 : decode b_M_block 15 = .ok (.getfield 35, 3) := by decide +kernel
theorem dM_block_18 : decode b_M_block 18 = .ok (.iload_n 1, 1) := by decide +kernel
theorem dM_block_19 : decode b_M_block 19 = .ok (.iload_n 3, 1) := by decide +kernel
theorem dM_block_20 : decode b_M_block 20 = .ok (.iastore, 1) := by decide +kernel
theorem dM_block_21 : decode b_M_block 21 = .ok (.aload_n 0, 1) := by decide +kernel
theorem dM_block_22 : decode b_M_block 22 = .ok (.getfield 32, 3) := by decide +kernel
theorem dM_block_25 : decode b_M_block 25 = .ok (.iload_n 1, 1) := by decide +kernel
theorem dM_block_26 : decode b_M_block 26 = .ok (.aload_n 0, 1) := by decide +kernel
theorem dM_block_27 : decode b_M_block 27 = .ok (.invokevirtual 81, 3) := by decide +kernel
theorem dM_block_30 : decode b_M_block 30 = .ok (.iastore, 1) := by decide +kernel
theorem dM_block_31 : decode b_M_block 31 = .ok (.aload_n 0, 1) := by decide +kernel
theorem dM_block_32 : decode b_M_block 32 = .ok (.getfield 54, 3) := by decide +kernel
theorem dM_block_35 : decode b_M_block 35 = .ok (.iload_n 1, 1) := by decide +kernel
theorem dM_block_36 : decode b_M_block 36 = .ok (.iconst 0, 1) := by decide +kernel
theorem dM_block_37 : decode b_M_block 37 = .ok (.bastore, 1) := by decide +kernel
theorem dM_block_38 : decode b_M_block 38 = .ok (.return_, 1) := by decide +kernel
theorem dM_weigh_0 : decode b_M_weigh 0 = .ok (.iconst 0, 1) := by decide +kernel
theorem dM_weigh_1 : decode b_M_weigh 1 = .ok (.istore_n 1, 1) := by decide +kernel
theorem dM_weigh_2 : decode b_M_weigh 2 = .ok (.iload_n 1, 1) := by decide +kernel
theorem dM_weigh_3 : decode b_M_weigh 3 = .ok (.bipush 8, 2) := by decide +kernel
theorem dM_weigh_5 : decode b_M_weigh 5 = .ok (.if_icmp .ge 51, 3) := by decide +kernel
theorem dM_weigh_8 : decode b_M_weigh 8 = .ok (.aload_n 0, 1) := by decide +kernel
theorem dM_weigh_9 : decode b_M_weigh 9 = .ok (.getfield 72, 3) := by decide +kernel
theorem dM_weigh_12 : decode b_M_weigh 12 = .ok (.iload_n 1, 1) := by decide +kernel
theorem dM_weigh_13 : decode b_M_weigh 13 = .ok (.aload_n 0, 1) := by decide +kernel
theorem dM_weigh_14 : decode b_M_weigh 14 = .ok (.getfield 57, 3) := by decide +kernel
theorem dM_weigh_17 : decode b_M_weigh 17 = .ok (.iconst 3, 1) := by decide +kernel
theorem dM_weigh_18 : decode b_M_weigh 18 = .ok (.iaload, 1) := by decide +kernel
theorem dM_weigh_19 : decode b_M_weigh 19 = .ok (.iload_n 1, 1) := by decide +kernel
theorem dM_weigh_20 : decode b_M_weigh 20 = .ok (.if_icmp .ne 23, 3) := by decide +kernel
theorem dM_weigh_23 : decode b_M_weigh 23 = .ok (.aload_n 0, 1) := by decide +kernel
theorem dM_weigh_24 : decode b_M_weigh 24 = .ok (.getfield 20, 3) := by decide +kernel
theorem dM_weigh_27 : decode b_M_weigh 27 = .ok (.iload_n 1, 1) := by decide +kernel
theorem dM_weigh_28 : decode b_M_weigh 28 = .ok (.iaload, 1) := by decide +kernel
theorem dM_weigh_29 : decode b_M_weigh 29 = .ok (.aload_n 0, 1) := by decide +kernel
theorem dM_weigh_30 : decode b_M_weigh 30 = .ok (.getfield 78, 3) := by decide +kernel
theorem dM_weigh_33 : decode b_M_weigh 33 = .ok (.if_icmp .ge 10, 3) := by decide +kernel
theorem dM_weigh_36 : decode b_M_weigh 36 = .ok (.aload_n 0, 1) := by decide +kernel
theorem dM_weigh_37 : decode b_M_weigh 37 = .ok (.getfield 78, 3) := by decide +kernel
theorem dM_weigh_40 : decode b_M_weigh 40 = .ok (.goto 9, 3) := by decide +kernel
theorem dM_weigh_43 : decode b_M_weigh 43 = .ok (.aload_n 0, 1) := by decide +kernel
theorem dM_weigh_44 : decode b_M_weigh 44 = .ok (.getfield 20, 3) := by decide +kernel
theorem dM_weigh_47 : decode b_M_weigh 47 = .ok (.iload_n 1, 1) := by decide +kernel
theorem dM_weigh_48 : decode b_M_weigh 48 = .ok (.iaload, 1) := by decide +kernel
theorem dM_weigh_49 : decode b_M_weigh 49 = .ok (.iastore, 1) := by decide +kernel
theorem dM_weigh_50 : decode b_M_weigh 50 = .ok (.iinc 1 1, 3) := by decide +kernel
theorem dM_weigh_53 : decode b_M_weigh 53 = .ok (.goto (-51), 3) := by decide +kernel
theorem dM_weigh_56 : decode b_M_weigh 56 = .ok (.iconst 0, 1) := by decide +kernel
theorem dM_weigh_57 : decode b_M_weigh 57 = .ok (.istore_n 1, 1) := by decide +kernel
theorem dM_weigh_58 : decode b_M_weigh 58 = .ok (.iload_n 1, 1) := by decide +kernel
theorem dM_weigh_59 : decode b_M_weigh 59 = .ok (.bipush 8, 2) := by decide +kernel
theorem dM_weigh_61 : decode b_M_weigh 61 = .ok (.if_icmp .ge 99, 3) := by decide +kernel
theorem dM_weigh_64 : decode b_M_weigh 64 = .ok (.iconst 0, 1) := by decide +kernel
theorem dM_weigh_65 : decode b_M_weigh 65 = .ok (.istore_n 2, 1) := by decide +kernel
theorem dM_weigh_66 : decode b_M_weigh 66 = .ok (.iload_n 2, 1) := by decide +kernel
theorem dM_weigh_67 : decode b_M_weigh 67 = .ok (.bipush 8, 2) := by decide +kernel
theorem dM_weigh_69 : decode b_M_weigh 69 = .ok (.if_icmp .ge 85, 3) := by decide +kernel
theorem dM_weigh_72 : decode b_M_weigh 72 = .ok (.aload_n 0, 1) := by decide +kernel
theorem dM_weigh_73 : decode b_M_weigh 73 = .ok (.getfield 29, 3) := by decide +kernel
theorem dM_weigh_76 : decode b_M_weigh 76 = .ok (.iload_n 2, 1) := by decide +kernel
theorem dM_weigh_77 : decode b_M_weigh 77 = .ok (.iaload, 1) := by decide +kernel
theorem dM_weigh_78 : decode b_M_weigh 78 = .ok (.bipush 10, 2) := by decide +kernel
theorem dM_weigh_80 : decode b_M_weigh 80 = .ok (.isub, 1) := by decide +kernel
theorem dM_weigh_81 : decode b_M_weigh 81 = .ok (.istore_n 3, 1) := by decide +kernel
theorem dM_weigh_82 : decode b_M_weigh 82 = .ok (.aload_n 0, 1) := by decide +kernel
theorem dM_weigh_83 : decode b_M_weigh 83 = .ok (.getfield 16, 3) := by decide +kernel
theorem dM_weigh_86 : decode b_M_weigh 86 = .ok (.iload_n 2, 1) := by decide +kernel
theorem dM_weigh_87 : decode b_M_weigh 87 = .ok (.iaload, 1) := by decide +kernel
theorem dM_weigh_88 : decode b_M_weigh 88 = .ok (.iconst 2, 1) := by decide +kernel
theorem dM_weigh_89 : decode b_M_weigh 89 = .ok (.if_icmp .ne 59, 3) := by decide +kernel
theorem dM_weigh_92 : decode b_M_weigh 92 = .ok (.iload_n 3, 1) := by decide +kernel
theorem dM_weigh_93 : decode b_M_weigh 93 = .ok (.iconst 1, 1) := by decide +kernel
theorem dM_weigh_94 : decode b_M_weigh 94 = .ok (.if_icmp .eq 8, 3) := by decide +kernel
theorem dM_weigh_97 : decode b_M_weigh 97 = .ok (.iload_n 3, 1) := by decide +kernel
theorem dM_weigh_98 : decode b_M_weigh 98 = .ok (.iconst 2, 1) := by decide +kernel
theorem dM_weigh_99 : decode b_M_weigh 99 = .ok (.if_icmp .ne 49, 3) := by decide +kernel
theorem dM_weigh_102 : decode b_M_weigh 102 = .ok (.aload_n 0, 1) := by decide +kernel
theorem dM_weigh_103 : decode b_M_weigh 103 = .ok (.getfield 57, 3) := by decide +kernel
theorem dM_weigh_106 : decode b_M_weigh 106 = .ok (.iload_n 3, 1) := by decide +kernel
theorem dM_weigh_107 : decode b_M_weigh 107 = .ok (.iaload, 1) := by decide +kernel
theorem dM_weigh_108 : decode b_M_weigh 108 = .ok (.ifCond .lt 40, 3) := by decide +kernel
theorem dM_weigh_111 : decode b_M_weigh 111 = .ok (.aload_n 0, 1) := by decide +kernel
theorem dM_weigh_112 : decode b_M_weigh 112 = .ok (.getfield 72, 3) := by decide +kernel
theorem dM_weigh_115 : decode b_M_weigh 115 = .ok (.aload_n 0, 1) := by decide +kernel
theorem dM_weigh_116 : decode b_M_weigh 116 = .ok (.getfield 57, 3) := by decide +kernel
theorem dM_weigh_119 : decode b_M_weigh 119 = .ok (.iload_n 3, 1) := by decide +kernel
theorem dM_weigh_120 : decode b_M_weigh 120 = .ok (.iaload, 1) := by decide +kernel
theorem dM_weigh_121 : decode b_M_weigh 121 = .ok (.iaload, 1) := by decide +kernel
theorem dM_weigh_122 : decode b_M_weigh 122 = .ok (.aload_n 0, 1) := by decide +kernel
theorem dM_weigh_123 : decode b_M_weigh 123 = .ok (.getfield 72, 3) := by decide +kernel
theorem dM_weigh_126 : decode b_M_weigh 126 = .ok (.iload_n 2, 1) := by decide +kernel
theorem dM_weigh_127 : decode b_M_weigh 127 = .ok (.iaload, 1) := by decide +kernel
theorem dM_weigh_128 : decode b_M_weigh 128 = .ok (.if_icmp .ge 20, 3) := by decide +kernel
theorem dM_weigh_131 : decode b_M_weigh 131 = .ok (.aload_n 0, 1) := by decide +kernel
theorem dM_weigh_132 : decode b_M_weigh 132 = .ok (.getfield 72, 3) := by decide +kernel
theorem dM_weigh_135 : decode b_M_weigh 135 = .ok (.aload_n 0, 1) := by decide +kernel
theorem dM_weigh_136 : decode b_M_weigh 136 = .ok (.getfield 57, 3) := by decide +kernel
theorem dM_weigh_139 : decode b_M_weigh 139 = .ok (.iload_n 3, 1) := by decide +kernel
theorem dM_weigh_140 : decode b_M_weigh 140 = .ok (.iaload, 1) := by decide +kernel
theorem dM_weigh_141 : decode b_M_weigh 141 = .ok (.aload_n 0, 1) := by decide +kernel
theorem dM_weigh_142 : decode b_M_weigh 142 = .ok (.getfield 72, 3) := by decide +kernel
theorem dM_weigh_145 : decode b_M_weigh 145 = .ok (.iload_n 2, 1) := by decide +kernel
theorem dM_weigh_146 : decode b_M_weigh 146 = .ok (.iaload, 1) := by decide +kernel
theorem dM_weigh_147 : decode b_M_weigh 147 = .ok (.iastore, 1) := by decide +kernel
theorem dM_weigh_148 : decode b_M_weigh 148 = .ok (.iinc 2 1, 3) := by decide +kernel
theorem dM_weigh_151 : decode b_M_weigh 151 = .ok (.goto (-85), 3) := by decide +kernel
theorem dM_weigh_154 : decode b_M_weigh 154 = .ok (.iinc 1 1, 3) := by decide +kernel
theorem dM_weigh_157 : decode b_M_weigh 157 = .ok (.goto (-99), 3) := by decide +kernel
theorem dM_weigh_160 : decode b_M_weigh 160 = .ok (.return_, 1) := by decide +kernel
theorem dM_running_0 : decode b_M_running 0 = .ok (.iconst (-1), 1) := by decide +kernel
theorem dM_running_1 : decode b_M_running 1 = .ok (.istore_n 1, 1) := by decide +kernel
theorem dM_running_2 : decode b_M_running 2 = .ok (.aload_n 0, 1) := by decide +kernel
theorem dM_running_3 : decode b_M_running 3 = .ok (.invokevirtual 85, 3) := by decide +kernel
theorem dM_running_6 : decode b_M_running 6 = .ok (.iconst 0, 1) := by decide +kernel
theorem dM_running_7 : decode b_M_running 7 = .ok (.istore_n 2, 1) := by decide +kernel
theorem dM_running_8 : decode b_M_running 8 = .ok (.iload_n 2, 1) := by decide +kernel
theorem dM_running_9 : decode b_M_running 9 = .ok (.bipush 8, 2) := by decide +kernel
theorem dM_running_11 : decode b_M_running 11 = .ok (.if_icmp .ge 73, 3) := by decide +kernel
theorem dM_running_14 : decode b_M_running 14 = .ok (.aload_n 0, 1) := by decide +kernel
theorem dM_running_15 : decode b_M_running 15 = .ok (.getfield 16, 3) := by decide +kernel
theorem dM_running_18 : decode b_M_running 18 = .ok (.iload_n 2, 1) := by decide +kernel
theorem dM_running_19 : decode b_M_running 19 = .ok (.iaload, 1) := by decide +kernel
theorem dM_running_20 : decode b_M_running 20 = .ok (.iconst 1, 1) := by decide +kernel
theorem dM_running_21 : decode b_M_running 21 = .ok (.if_icmp .eq 6, 3) := by decide +kernel
theorem dM_running_24 : decode b_M_running 24 = .ok (.goto 54, 3) := by decide +kernel
theorem dM_running_27 : decode b_M_running 27 = .ok (.iload_n 1, 1) := by decide +kernel
theorem dM_running_28 : decode b_M_running 28 = .ok (.ifCond .lt 48, 3) := by decide +kernel
theorem dM_running_31 : decode b_M_running 31 = .ok (.aload_n 0, 1) := by decide +kernel
theorem dM_running_32 : decode b_M_running 32 = .ok (.getfield 72, 3) := by decide +kernel
theorem dM_running_35 : decode b_M_running 35 = .ok (.iload_n 2, 1) := by decide +kernel
theorem dM_running_36 : decode b_M_running 36 = .ok (.iaload, 1) := by decide +kernel
theorem dM_running_37 : decode b_M_running 37 = .ok (.aload_n 0, 1) := by decide +kernel
theorem dM_running_38 : decode b_M_running 38 = .ok (.getfield 72, 3) := by decide +kernel
theorem dM_running_41 : decode b_M_running 41 = .ok (.iload_n 1, 1) := by decide +kernel
theorem dM_running_42 : decode b_M_running 42 = .ok (.iaload, 1) := by decide +kernel
theorem dM_running_43 : decode b_M_running 43 = .ok (.if_icmp .gt 33, 3) := by decide +kernel
theorem dM_running_46 : decode b_M_running 46 = .ok (.aload_n 0, 1) := by decide +kernel
theorem dM_running_47 : decode b_M_running 47 = .ok (.getfield 72, 3) := by decide +kernel
theorem dM_running_50 : decode b_M_running 50 = .ok (.iload_n 2, 1) := by decide +kernel
theorem dM_running_51 : decode b_M_running 51 = .ok (.iaload, 1) := by decide +kernel
theorem dM_running_52 : decode b_M_running 52 = .ok (.aload_n 0, 1) := by decide +kernel
theorem dM_running_53 : decode b_M_running 53 = .ok (.getfield 72, 3) := by decide +kernel
theorem dM_running_56 : decode b_M_running 56 = .ok (.iload_n 1, 1) := by decide +kernel
theorem dM_running_57 : decode b_M_running 57 = .ok (.iaload, 1) := by decide +kernel
theorem dM_running_58 : decode b_M_running 58 = .ok (.if_icmp .ne 20, 3) := by decide +kernel
theorem dM_running_61 : decode b_M_running 61 = .ok (.aload_n 0, 1) := by decide +kernel
theorem dM_running_62 : decode b_M_running 62 = .ok (.getfield 23, 3) := by decide +kernel
theorem dM_running_65 : decode b_M_running 65 = .ok (.iload_n 2, 1) := by decide +kernel
theorem dM_running_66 : decode b_M_running 66 = .ok (.iaload, 1) := by decide +kernel
theorem dM_running_67 : decode b_M_running 67 = .ok (.aload_n 0, 1) := by decide +kernel
theorem dM_running_68 : decode b_M_running 68 = .ok (.getfield 23, 3) := by decide +kernel
theorem dM_running_71 : decode b_M_running 71 = .ok (.iload_n 1, 1) := by decide +kernel
theorem dM_running_72 : decode b_M_running 72 = .ok (.iaload, 1) := by decide +kernel
theorem dM_running_73 : decode b_M_running 73 = .ok (.if_icmp .ge 5, 3) := by decide +kernel
theorem dM_running_76 : decode b_M_running 76 = .ok (.iload_n 2, 1) := by decide +kernel
theorem dM_running_77 : decode b_M_running 77 = .ok (.istore_n 1, 1) := by decide +kernel
theorem dM_running_78 : decode b_M_running 78 = .ok (.iinc 2 1, 3) := by decide +kernel
theorem dM_running_81 : decode b_M_running 81 = .ok (.goto (-73), 3) := by decide +kernel
theorem dM_running_84 : decode b_M_running 84 = .ok (.iload_n 1, 1) := by decide +kernel
theorem dM_running_85 : decode b_M_running 85 = .ok (.ireturn, 1) := by decide +kernel
theorem dM_firstWaiter_0 : decode b_M_firstWaiter 0 = .ok (.iconst (-1), 1) := by decide +kernel
theorem dM_firstWaiter_1 : decode b_M_firstWaiter 1 = .ok (.istore_n 2, 1) := by decide +kernel
theorem dM_firstWaiter_2 : decode b_M_firstWaiter 2 = .ok (.aload_n 0, 1) := by decide +kernel
theorem dM_firstWaiter_3 : decode b_M_firstWaiter 3 = .ok (.invokevirtual 85, 3) := by decide +kernel
theorem dM_firstWaiter_6 : decode b_M_firstWaiter 6 = .ok (.iconst 0, 1) := by decide +kernel
theorem dM_firstWaiter_7 : decode b_M_firstWaiter 7 = .ok (.istore_n 3, 1) := by decide +kernel
theorem dM_firstWaiter_8 : decode b_M_firstWaiter 8 = .ok (.iload_n 3, 1) := by decide +kernel
theorem dM_firstWaiter_9 : decode b_M_firstWaiter 9 = .ok (.bipush 8, 2) := by decide +kernel
theorem dM_firstWaiter_11 : decode b_M_firstWaiter 11 = .ok (.if_icmp .ge 83, 3) := by decide +kernel
theorem dM_firstWaiter_14 : decode b_M_firstWaiter 14 = .ok (.aload_n 0, 1) := by decide +kernel
theorem dM_firstWaiter_15 : decode b_M_firstWaiter 15 = .ok (.getfield 16, 3) := by decide +kernel
theorem dM_firstWaiter_18 : decode b_M_firstWaiter 18 = .ok (.iload_n 3, 1) := by decide +kernel
theorem dM_firstWaiter_19 : decode b_M_firstWaiter 19 = .ok (.iaload, 1) := by decide +kernel
theorem dM_firstWaiter_20 : decode b_M_firstWaiter 20 = .ok (.iconst 2, 1) := by decide +kernel
theorem dM_firstWaiter_21 : decode b_M_firstWaiter 21 = .ok (.if_icmp .ne 67, 3) := by decide +kernel
theorem dM_firstWaiter_24 : decode b_M_firstWaiter 24 = .ok (.aload_n 0, 1) := by decide +kernel
theorem dM_firstWaiter_25 : decode b_M_firstWaiter 25 = .ok (.getfield 29, 3) := by decide +kernel
theorem dM_firstWaiter_28 : decode b_M_firstWaiter 28 = .ok (.iload_n 3, 1) := by decide +kernel
theorem dM_firstWaiter_29 : decode b_M_firstWaiter 29 = .ok (.iaload, 1) := by decide +kernel
theorem dM_firstWaiter_30 : decode b_M_firstWaiter 30 = .ok (.iload_n 1, 1) := by decide +kernel
theorem dM_firstWaiter_31 : decode b_M_firstWaiter 31 = .ok (.if_icmp .eq 6, 3) := by decide +kernel
theorem dM_firstWaiter_34 : decode b_M_firstWaiter 34 = .ok (.goto 54, 3) := by decide +kernel
theorem dM_firstWaiter_37 : decode b_M_firstWaiter 37 = .ok (.iload_n 2, 1) := by decide +kernel
theorem dM_firstWaiter_38 : decode b_M_firstWaiter 38 = .ok (.ifCond .lt 48, 3) := by decide +kernel
theorem dM_firstWaiter_41 : decode b_M_firstWaiter 41 = .ok (.aload_n 0, 1) := by decide +kernel
theorem dM_firstWaiter_42 : decode b_M_firstWaiter 42 = .ok (.getfield 72, 3) := by decide +kernel
theorem dM_firstWaiter_45 : decode b_M_firstWaiter 45 = .ok (.iload_n 3, 1) := by decide +kernel
theorem dM_firstWaiter_46 : decode b_M_firstWaiter 46 = .ok (.iaload, 1) := by decide +kernel
theorem dM_firstWaiter_47 : decode b_M_firstWaiter 47 = .ok (.aload_n 0, 1) := by decide +kernel
theorem dM_firstWaiter_48 : decode b_M_firstWaiter 48 = .ok (.getfield 72, 3) := by decide +kernel
theorem dM_firstWaiter_51 : decode b_M_firstWaiter 51 = .ok (.iload_n 2, 1) := by decide +kernel
theorem dM_firstWaiter_52 : decode b_M_firstWaiter 52 = .ok (.iaload, 1) := by decide +kernel
theorem dM_firstWaiter_53 : decode b_M_firstWaiter 53 = .ok (.if_icmp .gt 33, 3) := by decide +kernel
theorem dM_firstWaiter_56 : decode b_M_firstWaiter 56 = .ok (.aload_n 0, 1) := by decide +kernel
theorem dM_firstWaiter_57 : decode b_M_firstWaiter 57 = .ok (.getfield 72, 3) := by decide +kernel
theorem dM_firstWaiter_60 : decode b_M_firstWaiter 60 = .ok (.iload_n 3, 1) := by decide +kernel
theorem dM_firstWaiter_61 : decode b_M_firstWaiter 61 = .ok (.iaload, 1) := by decide +kernel
theorem dM_firstWaiter_62 : decode b_M_firstWaiter 62 = .ok (.aload_n 0, 1) := by decide +kernel
theorem dM_firstWaiter_63 : decode b_M_firstWaiter 63 = .ok (.getfield 72, 3) := by decide +kernel
theorem dM_firstWaiter_66 : decode b_M_firstWaiter 66 = .ok (.iload_n 2, 1) := by decide +kernel
theorem dM_firstWaiter_67 : decode b_M_firstWaiter 67 = .ok (.iaload, 1) := by decide +kernel
theorem dM_firstWaiter_68 : decode b_M_firstWaiter 68 = .ok (.if_icmp .ne 20, 3) := by decide +kernel
theorem dM_firstWaiter_71 : decode b_M_firstWaiter 71 = .ok (.aload_n 0, 1) := by decide +kernel
theorem dM_firstWaiter_72 : decode b_M_firstWaiter 72 = .ok (.getfield 32, 3) := by decide +kernel
theorem dM_firstWaiter_75 : decode b_M_firstWaiter 75 = .ok (.iload_n 3, 1) := by decide +kernel
theorem dM_firstWaiter_76 : decode b_M_firstWaiter 76 = .ok (.iaload, 1) := by decide +kernel
theorem dM_firstWaiter_77 : decode b_M_firstWaiter 77 = .ok (.aload_n 0, 1) := by decide +kernel
theorem dM_firstWaiter_78 : decode b_M_firstWaiter 78 = .ok (.getfield 32, 3) := by decide +kernel
theorem dM_firstWaiter_81 : decode b_M_firstWaiter 81 = .ok (.iload_n 2, 1) := by decide +kernel
theorem dM_firstWaiter_82 : decode b_M_firstWaiter 82 = .ok (.iaload, 1) := by decide +kernel
theorem dM_firstWaiter_83 : decode b_M_firstWaiter 83 = .ok (.if_icmp .ge 5, 3) := by decide +kernel
theorem dM_firstWaiter_86 : decode b_M_firstWaiter 86 = .ok (.iload_n 3, 1) := by decide +kernel
theorem dM_firstWaiter_87 : decode b_M_firstWaiter 87 = .ok (.istore_n 2, 1) := by decide +kernel
theorem dM_firstWaiter_88 : decode b_M_firstWaiter 88 = .ok (.iinc 3 1, 3) := by decide +kernel
theorem dM_firstWaiter_91 : decode b_M_firstWaiter 91 = .ok (.goto (-83), 3) := by decide +kernel
theorem dM_firstWaiter_94 : decode b_M_firstWaiter 94 = .ok (.iload_n 2, 1) := by decide +kernel
theorem dM_firstWaiter_95 : decode b_M_firstWaiter 95 = .ok (.ireturn, 1) := by decide +kernel
theorem dM_give_0 : decode b_M_give 0 = .ok (.aload_n 0, 1) := by decide +kernel
theorem dM_give_1 : decode b_M_give 1 = .ok (.getfield 57, 3) := by decide +kernel
theorem dM_give_4 : decode b_M_give 4 = .ok (.iload_n 1, 1) := by decide +kernel
theorem dM_give_5 : decode b_M_give 5 = .ok (.iconst (-1), 1) := by decide +kernel
theorem dM_give_6 : decode b_M_give 6 = .ok (.iastore, 1) := by decide +kernel
theorem dM_give_7 : decode b_M_give 7 = .ok (.aload_n 0, 1) := by decide +kernel
theorem dM_give_8 : decode b_M_give 8 = .ok (.bipush 10, 2) := by decide +kernel
theorem dM_give_10 : decode b_M_give 10 = .ok (.iload_n 1, 1) := by decide +kernel
theorem dM_give_11 : decode b_M_give 11 = .ok (.iadd, 1) := by decide +kernel
theorem dM_give_12 : decode b_M_give 12 = .ok (.invokevirtual 88, 3) := by decide +kernel
theorem dM_give_15 : decode b_M_give 15 = .ok (.istore_n 2, 1) := by decide +kernel
theorem dM_give_16 : decode b_M_give 16 = .ok (.iload_n 2, 1) := by decide +kernel
theorem dM_give_17 : decode b_M_give 17 = .ok (.ifCond .ge 4, 3) := by decide +kernel
theorem dM_give_20 : decode b_M_give 20 = .ok (.return_, 1) := by decide +kernel
theorem dM_give_21 : decode b_M_give 21 = .ok (.aload_n 0, 1) := by decide +kernel
theorem dM_give_22 : decode b_M_give 22 = .ok (.getfield 57, 3) := by decide +kernel
theorem dM_give_25 : decode b_M_give 25 = .ok (.iload_n 1, 1) := by decide +kernel
theorem dM_give_26 : decode b_M_give 26 = .ok (.iload_n 2, 1) := by decide +kernel
theorem dM_give_27 : decode b_M_give 27 = .ok (.iastore, 1) := by decide +kernel
theorem dM_give_28 : decode b_M_give 28 = .ok (.aload_n 0, 1) := by decide +kernel
theorem dM_give_29 : decode b_M_give 29 = .ok (.getfield 54, 3) := by decide +kernel
theorem dM_give_32 : decode b_M_give 32 = .ok (.iload_n 2, 1) := by decide +kernel
theorem dM_give_33 : decode b_M_give 33 = .ok (.baload, 1) := by decide +kernel
theorem dM_give_34 : decode b_M_give 34 = .ok (.ifCond .ne 10, 3) := by decide +kernel
theorem dM_give_37 : decode b_M_give 37 = .ok (.aload_n 0, 1) := by decide +kernel
theorem dM_give_38 : decode b_M_give 38 = .ok (.getfield 38, 3) := by decide +kernel
theorem dM_give_41 : decode b_M_give 41 = .ok (.iload_n 2, 1) := by decide +kernel
theorem dM_give_42 : decode b_M_give 42 = .ok (.iconst 0, 1) := by decide +kernel
theorem dM_give_43 : decode b_M_give 43 = .ok (.iastore, 1) := by decide +kernel
theorem dM_give_44 : decode b_M_give 44 = .ok (.aload_n 0, 1) := by decide +kernel
theorem dM_give_45 : decode b_M_give 45 = .ok (.iload_n 2, 1) := by decide +kernel
theorem dM_give_46 : decode b_M_give 46 = .ok (.invokevirtual 92, 3) := by decide +kernel
theorem dM_give_49 : decode b_M_give 49 = .ok (.return_, 1) := by decide +kernel
theorem dM_retake_0 : decode b_M_retake 0 = .ok (.aload_n 0, 1) := by decide +kernel
theorem dM_retake_1 : decode b_M_retake 1 = .ok (.getfield 41, 3) := by decide +kernel
theorem dM_retake_4 : decode b_M_retake 4 = .ok (.iload_n 1, 1) := by decide +kernel
theorem dM_retake_5 : decode b_M_retake 5 = .ok (.iaload, 1) := by decide +kernel
theorem dM_retake_6 : decode b_M_retake 6 = .ok (.istore_n 3, 1) := by decide +kernel
theorem dM_retake_7 : decode b_M_retake 7 = .ok (.aload_n 0, 1) := by decide +kernel
theorem dM_retake_8 : decode b_M_retake 8 = .ok (.getfield 38, 3) := by decide +kernel
theorem dM_retake_11 : decode b_M_retake 11 = .ok (.iload_n 1, 1) := by decide +kernel
theorem dM_retake_12 : decode b_M_retake 12 = .ok (.iload_n 2, 1) := by decide +kernel
theorem dM_retake_13 : decode b_M_retake 13 = .ok (.iastore, 1) := by decide +kernel
theorem dM_retake_14 : decode b_M_retake 14 = .ok (.aload_n 0, 1) := by decide +kernel
theorem dM_retake_15 : decode b_M_retake 15 = .ok (.getfield 57, 3) := by decide +kernel
theorem dM_retake_18 : decode b_M_retake 18 = .ok (.iload_n 3, 1) := by decide +kernel
theorem dM_retake_19 : decode b_M_retake 19 = .ok (.iaload, 1) := by decide +kernel
theorem dM_retake_20 : decode b_M_retake 20 = .ok (.ifCond .ge 16, 3) := by decide +kernel
theorem dM_retake_23 : decode b_M_retake 23 = .ok (.aload_n 0, 1) := by decide +kernel
theorem dM_retake_24 : decode b_M_retake 24 = .ok (.getfield 57, 3) := by decide +kernel
theorem dM_retake_27 : decode b_M_retake 27 = .ok (.iload_n 3, 1) := by decide +kernel
theorem dM_retake_28 : decode b_M_retake 28 = .ok (.iload_n 1, 1) := by decide +kernel
theorem dM_retake_29 : decode b_M_retake 29 = .ok (.iastore, 1) := by decide +kernel
theorem dM_retake_30 : decode b_M_retake 30 = .ok (.aload_n 0, 1) := by decide +kernel
theorem dM_retake_31 : decode b_M_retake 31 = .ok (.iload_n 1, 1) := by decide +kernel
theorem dM_retake_32 : decode b_M_retake 32 = .ok (.invokevirtual 92, 3) := by decide +kernel
theorem dM_retake_35 : decode b_M_retake 35 = .ok (.return_, 1) := by decide +kernel
theorem dM_retake_36 : decode b_M_retake 36 = .ok (.aload_n 0, 1) := by decide +kernel
theorem dM_retake_37 : decode b_M_retake 37 = .ok (.iload_n 1, 1) := by decide +kernel
theorem dM_retake_38 : decode b_M_retake 38 = .ok (.bipush 10, 2) := by decide +kernel
theorem dM_retake_40 : decode b_M_retake 40 = .ok (.iload_n 3, 1) := by decide +kernel
theorem dM_retake_41 : decode b_M_retake 41 = .ok (.iadd, 1) := by decide +kernel
theorem dM_retake_42 : decode b_M_retake 42 = .ok (.iconst 0, 1) := by decide +kernel
theorem dM_retake_43 : decode b_M_retake 43 = .ok (.invokevirtual 96, 3) := by decide +kernel
theorem dM_retake_46 : decode b_M_retake 46 = .ok (.aload_n 0, 1) := by decide +kernel
theorem dM_retake_47 : decode b_M_retake 47 = .ok (.getfield 54, 3) := by decide +kernel
theorem dM_retake_50 : decode b_M_retake 50 = .ok (.iload_n 1, 1) := by decide +kernel
theorem dM_retake_51 : decode b_M_retake 51 = .ok (.iconst 1, 1) := by decide +kernel
theorem dM_retake_52 : decode b_M_retake 52 = .ok (.bastore, 1) := by decide +kernel
theorem dM_retake_53 : decode b_M_retake 53 = .ok (.return_, 1) := by decide +kernel
theorem dM_spawn_0 : decode b_M_spawn 0 = .ok (.iload_n 1, 1) := by decide +kernel
theorem dM_spawn_1 : decode b_M_spawn 1 = .ok (.iconst 1, 1) := by decide +kernel
theorem dM_spawn_2 : decode b_M_spawn 2 = .ok (.if_icmp .lt 9, 3) := by decide +kernel
theorem dM_spawn_5 : decode b_M_spawn 5 = .ok (.iload_n 1, 1) := by decide +kernel
theorem dM_spawn_6 : decode b_M_spawn 6 = .ok (.bipush 31, 2) := by decide +kernel
theorem dM_spawn_8 : decode b_M_spawn 8 = .ok (.if_icmp .le 5, 3) := by decide +kernel
theorem dM_spawn_11 : decode b_M_spawn 11 = .ok (.iconst (-1), 1) := by decide +kernel
theorem dM_spawn_12 : decode b_M_spawn 12 = .ok (.ireturn, 1) := by decide +kernel
theorem dM_spawn_13 : decode b_M_spawn 13 = .ok (.iconst 0, 1) := by decide +kernel
theorem dM_spawn_14 : decode b_M_spawn 14 = .ok (.istore_n 3, 1) := by decide +kernel
theorem dM_spawn_15 : decode b_M_spawn 15 = .ok (.iload_n 3, 1) := by decide +kernel
theorem dM_spawn_16 : decode b_M_spawn 16 = .ok (.bipush 8, 2) := by decide +kernel
theorem dM_spawn_18 : decode b_M_spawn 18 = .ok (.if_icmp .ge 18, 3) := by decide +kernel
theorem dM_spawn_21 : decode b_M_spawn 21 = .ok (.aload_n 0, 1) := by decide +kernel
theorem dM_spawn_22 : decode b_M_spawn 22 = .ok (.getfield 16, 3) := by decide +kernel
theorem dM_spawn_25 : decode b_M_spawn 25 = .ok (.iload_n 3, 1) := by decide +kernel
theorem dM_spawn_26 : decode b_M_spawn 26 = .ok (.iaload, 1) := by decide +kernel
theorem dM_spawn_27 : decode b_M_spawn 27 = .ok (.ifCond .eq 9, 3) := by decide +kernel
theorem dM_spawn_30 : decode b_M_spawn 30 = .ok (.iinc 3 1, 3) := by decide +kernel
theorem dM_spawn_33 : decode b_M_spawn 33 = .ok (.goto (-18), 3) := by decide +kernel
theorem dM_spawn_36 : decode b_M_spawn 36 = .ok (.iload_n 3, 1) := by decide +kernel
theorem dM_spawn_37 : decode b_M_spawn 37 = .ok (.bipush 8, 2) := by decide +kernel
theorem dM_spawn_39 : decode b_M_spawn 39 = .ok (.if_icmp .ne 5, 3) := by decide +kernel
theorem dM_spawn_42 : decode b_M_spawn 42 = .ok (.iconst (-1), 1) := by decide +kernel
theorem dM_spawn_43 : decode b_M_spawn 43 = .ok (.ireturn, 1) := by decide +kernel
theorem dM_spawn_44 : decode b_M_spawn 44 = .ok (.aload_n 0, 1) := by decide +kernel
theorem dM_spawn_45 : decode b_M_spawn 45 = .ok (.getfield 20, 3) := by decide +kernel
theorem dM_spawn_48 : decode b_M_spawn 48 = .ok (.iload_n 3, 1) := by decide +kernel
theorem dM_spawn_49 : decode b_M_spawn 49 = .ok (.iload_n 1, 1) := by decide +kernel
theorem dM_spawn_50 : decode b_M_spawn 50 = .ok (.iastore, 1) := by decide +kernel
theorem dM_spawn_51 : decode b_M_spawn 51 = .ok (.aload_n 0, 1) := by decide +kernel
theorem dM_spawn_52 : decode b_M_spawn 52 = .ok (.getfield 50, 3) := by decide +kernel
theorem dM_spawn_55 : decode b_M_spawn 55 = .ok (.iload_n 3, 1) := by decide +kernel
theorem dM_spawn_56 : decode b_M_spawn 56 = .ok (.iload_n 2, 1) := by decide +kernel
theorem dM_spawn_57 : decode b_M_spawn 57 = .ok (.bastore, 1) := by decide +kernel
theorem dM_spawn_58 : decode b_M_spawn 58 = .ok (.aload_n 0, 1) := by decide +kernel
theorem dM_spawn_59 : decode b_M_spawn 59 = .ok (.getfield 38, 3) := by decide +kernel
theorem dM_spawn_62 : decode b_M_spawn 62 = .ok (.iload_n 3, 1) := by decide +kernel
theorem dM_spawn_63 : decode b_M_spawn 63 = .ok (.iconst 0, 1) := by decide +kernel
theorem dM_spawn_64 : decode b_M_spawn 64 = .ok (.iastore, 1) := by decide +kernel
theorem dM_spawn_65 : decode b_M_spawn 65 = .ok (.aload_n 0, 1) := by decide +kernel
theorem dM_spawn_66 : decode b_M_spawn 66 = .ok (.iload_n 3, 1) := by decide +kernel
theorem dM_spawn_67 : decode b_M_spawn 67 = .ok (.invokevirtual 92, 3) := by decide +kernel
theorem dM_spawn_70 : decode b_M_spawn 70 = .ok (.iload_n 3, 1) := by decide +kernel
theorem dM_spawn_71 : decode b_M_spawn 71 = .ok (.ireturn, 1) := by decide +kernel
theorem dM_priority_0 : decode b_M_priority 0 = .ok (.aload_n 0, 1) := by decide +kernel
theorem dM_priority_1 : decode b_M_priority 1 = .ok (.iload_n 1, 1) := by decide +kernel
theorem dM_priority_2 : decode b_M_priority 2 = .ok (.bipush 8, 2) := by decide +kernel
theorem dM_priority_4 : decode b_M_priority 4 = .ok (.invokevirtual 100, 3) := by decide +kernel
theorem dM_priority_7 : decode b_M_priority 7 = .ok (.ifCond .ne 33, 3) := by decide +kernel
theorem dM_priority_10 : decode b_M_priority 10 = .ok (.iload_n 2, 1) := by decide +kernel
theorem dM_priority_11 : decode b_M_priority 11 = .ok (.iconst 1, 1) := by decide +kernel
theorem dM_priority_12 : decode b_M_priority 12 = .ok (.if_icmp .lt 28, 3) := by decide +kernel
theorem dM_priority_15 : decode b_M_priority 15 = .ok (.iload_n 2, 1) := by decide +kernel
theorem dM_priority_16 : decode b_M_priority 16 = .ok (.bipush 31, 2) := by decide +kernel
theorem dM_priority_18 : decode b_M_priority 18 = .ok (.if_icmp .gt 22, 3) := by decide +kernel
theorem dM_priority_21 : decode b_M_priority 21 = .ok (.aload_n 0, 1) := by decide +kernel
theorem dM_priority_22 : decode b_M_priority 22 = .ok (.getfield 16, 3) := by decide +kernel
theorem dM_priority_25 : decode b_M_priority 25 = .ok (.iload_n 1, 1) := by decide +kernel
theorem dM_priority_26 : decode b_M_priority 26 = .ok (.iaload, 1) := by decide +kernel
theorem dM_priority_27 : decode b_M_priority 27 = .ok (.ifCond .eq 13, 3) := by decide +kernel
theorem dM_priority_30 : decode b_M_priority 30 = .ok (.aload_n 0, 1) := by decide +kernel
theorem dM_priority_31 : decode b_M_priority 31 = .ok (.getfield 16, 3) := by decide +kernel
theorem dM_priority_34 : decode b_M_priority 34 = .ok (.iload_n 1, 1) := by decide +kernel
theorem dM_priority_35 : decode b_M_priority 35 = .ok (.iaload, 1) := by decide +kernel
theorem dM_priority_36 : decode b_M_priority 36 = .ok (.iconst 3, 1) := by decide +kernel
theorem dM_priority_37 : decode b_M_priority 37 = .ok (.if_icmp .ne 5, 3) := by decide +kernel
theorem dM_priority_40 : decode b_M_priority 40 = .ok (.iconst (-1), 1) := by decide +kernel
theorem dM_priority_41 : decode b_M_priority 41 = .ok (.ireturn, 1) := by decide +kernel
theorem dM_priority_42 : decode b_M_priority 42 = .ok (.aload_n 0, 1) := by decide +kernel
theorem dM_priority_43 : decode b_M_priority 43 = .ok (.getfield 57, 3) := by decide +kernel
theorem dM_priority_46 : decode b_M_priority 46 = .ok (.iconst 3, 1) := by decide +kernel
theorem dM_priority_47 : decode b_M_priority 47 = .ok (.iaload, 1) := by decide +kernel
theorem dM_priority_48 : decode b_M_priority 48 = .ok (.iload_n 1, 1) := by decide +kernel
theorem dM_priority_49 : decode b_M_priority 49 = .ok (.if_icmp .ne 13, 3) := by decide +kernel
theorem dM_priority_52 : decode b_M_priority 52 = .ok (.iload_n 2, 1) := by decide +kernel
theorem dM_priority_53 : decode b_M_priority 53 = .ok (.aload_n 0, 1) := by decide +kernel
theorem dM_priority_54 : decode b_M_priority 54 = .ok (.getfield 78, 3) := by decide +kernel
theorem dM_priority_57 : decode b_M_priority 57 = .ok (.if_icmp .le 5, 3) := by decide +kernel
theorem dM_priority_60 : decode b_M_priority 60 = .ok (.iconst (-1), 1) := by decide +kernel
theorem dM_priority_61 : decode b_M_priority 61 = .ok (.ireturn, 1) := by decide +kernel
theorem dM_priority_62 : decode b_M_priority 62 = .ok (.aload_n 0, 1) := by decide +kernel
theorem dM_priority_63 : decode b_M_priority 63 = .ok (.getfield 20, 3) := by decide +kernel
theorem dM_priority_66 : decode b_M_priority 66 = .ok (.iload_n 1, 1) := by decide +kernel
theorem dM_priority_67 : decode b_M_priority 67 = .ok (.iload_n 2, 1) := by decide +kernel
theorem dM_priority_68 : decode b_M_priority 68 = .ok (.iastore, 1) := by decide +kernel
theorem dM_priority_69 : decode b_M_priority 69 = .ok (.aload_n 0, 1) := by decide +kernel
theorem dM_priority_70 : decode b_M_priority 70 = .ok (.getfield 16, 3) := by decide +kernel
theorem dM_priority_73 : decode b_M_priority 73 = .ok (.iload_n 1, 1) := by decide +kernel
theorem dM_priority_74 : decode b_M_priority 74 = .ok (.iaload, 1) := by decide +kernel
theorem dM_priority_75 : decode b_M_priority 75 = .ok (.iconst 1, 1) := by decide +kernel
theorem dM_priority_76 : decode b_M_priority 76 = .ok (.if_icmp .ne 13, 3) := by decide +kernel
theorem dM_priority_79 : decode b_M_priority 79 = .ok (.aload_n 0, 1) := by decide +kernel
theorem dM_priority_80 : decode b_M_priority 80 = .ok (.getfield 23, 3) := by decide +kernel
theorem dM_priority_83 : decode b_M_priority 83 = .ok (.iload_n 1, 1) := by decide +kernel
theorem dM_priority_84 : decode b_M_priority 84 = .ok (.aload_n 0, 1) := by decide +kernel
theorem dM_priority_85 : decode b_M_priority 85 = .ok (.invokevirtual 81, 3) := by decide +kernel
theorem dM_priority_88 : decode b_M_priority 88 = .ok (.iastore, 1) := by decide +kernel
theorem dM_priority_89 : decode b_M_priority 89 = .ok (.iconst 0, 1) := by decide +kernel
theorem dM_priority_90 : decode b_M_priority 90 = .ok (.ireturn, 1) := by decide +kernel
theorem dM_pass_0 : decode b_M_pass 0 = .ok (.aload_n 0, 1) := by decide +kernel
theorem dM_pass_1 : decode b_M_pass 1 = .ok (.invokevirtual 104, 3) := by decide +kernel
theorem dM_pass_4 : decode b_M_pass 4 = .ok (.istore_n 1, 1) := by decide +kernel
theorem dM_pass_5 : decode b_M_pass 5 = .ok (.iload_n 1, 1) := by decide +kernel
theorem dM_pass_6 : decode b_M_pass 6 = .ok (.ifCond .ge 5, 3) := by decide +kernel
theorem dM_pass_9 : decode b_M_pass 9 = .ok (.iconst (-1), 1) := by decide +kernel
theorem dM_pass_10 : decode b_M_pass 10 = .ok (.ireturn, 1) := by decide +kernel
theorem dM_pass_11 : decode b_M_pass 11 = .ok (.aload_n 0, 1) := by decide +kernel
theorem dM_pass_12 : decode b_M_pass 12 = .ok (.iload_n 1, 1) := by decide +kernel
theorem dM_pass_13 : decode b_M_pass 13 = .ok (.invokevirtual 92, 3) := by decide +kernel
theorem dM_pass_16 : decode b_M_pass 16 = .ok (.iconst 0, 1) := by decide +kernel
theorem dM_pass_17 : decode b_M_pass 17 = .ok (.ireturn, 1) := by decide +kernel
theorem dM_lock_0 : decode b_M_lock 0 = .ok (.aload_n 0, 1) := by decide +kernel
theorem dM_lock_1 : decode b_M_lock 1 = .ok (.invokevirtual 104, 3) := by decide +kernel
theorem dM_lock_4 : decode b_M_lock 4 = .ok (.istore_n 2, 1) := by decide +kernel
theorem dM_lock_5 : decode b_M_lock 5 = .ok (.aload_n 0, 1) := by decide +kernel
theorem dM_lock_6 : decode b_M_lock 6 = .ok (.iload_n 1, 1) := by decide +kernel
theorem dM_lock_7 : decode b_M_lock 7 = .ok (.iconst 4, 1) := by decide +kernel
theorem dM_lock_8 : decode b_M_lock 8 = .ok (.invokevirtual 100, 3) := by decide +kernel
theorem dM_lock_11 : decode b_M_lock 11 = .ok (.ifCond .ne 35, 3) := by decide +kernel
theorem dM_lock_14 : decode b_M_lock 14 = .ok (.iload_n 2, 1) := by decide +kernel
theorem dM_lock_15 : decode b_M_lock 15 = .ok (.ifCond .lt 31, 3) := by decide +kernel
theorem dM_lock_18 : decode b_M_lock 18 = .ok (.aload_n 0, 1) := by decide +kernel
theorem dM_lock_19 : decode b_M_lock 19 = .ok (.getfield 57, 3) := by decide +kernel
theorem dM_lock_22 : decode b_M_lock 22 = .ok (.iload_n 1, 1) := by decide +kernel
theorem dM_lock_23 : decode b_M_lock 23 = .ok (.iaload, 1) := by decide +kernel
theorem dM_lock_24 : decode b_M_lock 24 = .ok (.iload_n 2, 1) := by decide +kernel
theorem dM_lock_25 : decode b_M_lock 25 = .ok (.if_icmp .eq 21, 3) := by decide +kernel
theorem dM_lock_28 : decode b_M_lock 28 = .ok (.iload_n 1, 1) := by decide +kernel
theorem dM_lock_29 : decode b_M_lock 29 = .ok (.iconst 3, 1) := by decide +kernel
theorem dM_lock_30 : decode b_M_lock 30 = .ok (.if_icmp .ne 18, 3) := by decide +kernel
theorem dM_lock_33 : decode b_M_lock 33 = .ok (.aload_n 0, 1) := by decide +kernel
theorem dM_lock_34 : decode b_M_lock 34 = .ok (.getfield 20, 3) := by decide +kernel
theorem dM_lock_37 : decode b_M_lock 37 = .ok (.iload_n 2, 1) := by decide +kernel
theorem dM_lock_38 : decode b_M_lock 38 = .ok (.iaload, 1) := by decide +kernel
theorem dM_lock_39 : decode b_M_lock 39 = .ok (.aload_n 0, 1) := by decide +kernel
theorem dM_lock_40 : decode b_M_lock 40 = .ok (.getfield 78, 3) := by decide +kernel
theorem dM_lock_43 : decode b_M_lock 43 = .ok (.if_icmp .le 5, 3) := by decide +kernel
theorem dM_lock_46 : decode b_M_lock 46 = .ok (.iconst (-1), 1) := by decide +kernel
theorem dM_lock_47 : decode b_M_lock 47 = .ok (.ireturn, 1) := by decide +kernel
theorem dM_lock_48 : decode b_M_lock 48 = .ok (.aload_n 0, 1) := by decide +kernel
theorem dM_lock_49 : decode b_M_lock 49 = .ok (.getfield 57, 3) := by decide +kernel
theorem dM_lock_52 : decode b_M_lock 52 = .ok (.iload_n 1, 1) := by decide +kernel
theorem dM_lock_53 : decode b_M_lock 53 = .ok (.iaload, 1) := by decide +kernel
theorem dM_lock_54 : decode b_M_lock 54 = .ok (.ifCond .ge 19, 3) := by decide +kernel
theorem dM_lock_57 : decode b_M_lock 57 = .ok (.aload_n 0, 1) := by decide +kernel
theorem dM_lock_58 : decode b_M_lock 58 = .ok (.getfield 57, 3) := by decide +kernel
theorem dM_lock_61 : decode b_M_lock 61 = .ok (.iload_n 1, 1) := by decide +kernel
theorem dM_lock_62 : decode b_M_lock 62 = .ok (.iload_n 2, 1) := by decide +kernel
theorem dM_lock_63 : decode b_M_lock 63 = .ok (.iastore, 1) := by decide +kernel
theorem dM_lock_64 : decode b_M_lock 64 = .ok (.aload_n 0, 1) := by decide +kernel
theorem dM_lock_65 : decode b_M_lock 65 = .ok (.getfield 38, 3) := by decide +kernel
theorem dM_lock_68 : decode b_M_lock 68 = .ok (.iload_n 2, 1) := by decide +kernel
theorem dM_lock_69 : decode b_M_lock 69 = .ok (.iconst 0, 1) := by decide +kernel
theorem dM_lock_70 : decode b_M_lock 70 = .ok (.iastore, 1) := by decide +kernel
theorem dM_lock_71 : decode b_M_lock 71 = .ok (.iconst 0, 1) := by decide +kernel
theorem dM_lock_72 : decode b_M_lock 72 = .ok (.ireturn, 1) := by decide +kernel
theorem dM_lock_73 : decode b_M_lock 73 = .ok (.aload_n 0, 1) := by decide +kernel
theorem dM_lock_74 : decode b_M_lock 74 = .ok (.iload_n 2, 1) := by decide +kernel
theorem dM_lock_75 : decode b_M_lock 75 = .ok (.bipush 10, 2) := by decide +kernel
theorem dM_lock_77 : decode b_M_lock 77 = .ok (.iload_n 1, 1) := by decide +kernel
theorem dM_lock_78 : decode b_M_lock 78 = .ok (.iadd, 1) := by decide +kernel
theorem dM_lock_79 : decode b_M_lock 79 = .ok (.iconst 0, 1) := by decide +kernel
theorem dM_lock_80 : decode b_M_lock 80 = .ok (.invokevirtual 96, 3) := by decide +kernel
theorem dM_lock_83 : decode b_M_lock 83 = .ok (.iconst 1, 1) := by decide +kernel
theorem dM_lock_84 : decode b_M_lock 84 = .ok (.ireturn, 1) := by decide +kernel
theorem dM_unlock_0 : decode b_M_unlock 0 = .ok (.aload_n 0, 1) := by decide +kernel
theorem dM_unlock_1 : decode b_M_unlock 1 = .ok (.invokevirtual 104, 3) := by decide +kernel
theorem dM_unlock_4 : decode b_M_unlock 4 = .ok (.istore_n 2, 1) := by decide +kernel
theorem dM_unlock_5 : decode b_M_unlock 5 = .ok (.aload_n 0, 1) := by decide +kernel
theorem dM_unlock_6 : decode b_M_unlock 6 = .ok (.iload_n 1, 1) := by decide +kernel
theorem dM_unlock_7 : decode b_M_unlock 7 = .ok (.iconst 4, 1) := by decide +kernel
theorem dM_unlock_8 : decode b_M_unlock 8 = .ok (.invokevirtual 100, 3) := by decide +kernel
theorem dM_unlock_11 : decode b_M_unlock 11 = .ok (.ifCond .ne 17, 3) := by decide +kernel
theorem dM_unlock_14 : decode b_M_unlock 14 = .ok (.iload_n 2, 1) := by decide +kernel
theorem dM_unlock_15 : decode b_M_unlock 15 = .ok (.ifCond .lt 13, 3) := by decide +kernel
theorem dM_unlock_18 : decode b_M_unlock 18 = .ok (.aload_n 0, 1) := by decide +kernel
theorem dM_unlock_19 : decode b_M_unlock 19 = .ok (.getfield 57, 3) := by decide +kernel
theorem dM_unlock_22 : decode b_M_unlock 22 = .ok (.iload_n 1, 1) := by decide +kernel
theorem dM_unlock_23 : decode b_M_unlock 23 = .ok (.iaload, 1) := by decide +kernel
theorem dM_unlock_24 : decode b_M_unlock 24 = .ok (.iload_n 2, 1) := by decide +kernel
theorem dM_unlock_25 : decode b_M_unlock 25 = .ok (.if_icmp .eq 5, 3) := by decide +kernel
theorem dM_unlock_28 : decode b_M_unlock 28 = .ok (.iconst (-1), 1) := by decide +kernel
theorem dM_unlock_29 : decode b_M_unlock 29 = .ok (.ireturn, 1) := by decide +kernel
theorem dM_unlock_30 : decode b_M_unlock 30 = .ok (.aload_n 0, 1) := by decide +kernel
theorem dM_unlock_31 : decode b_M_unlock 31 = .ok (.iload_n 1, 1) := by decide +kernel
theorem dM_unlock_32 : decode b_M_unlock 32 = .ok (.invokevirtual 107, 3) := by decide +kernel
theorem dM_unlock_35 : decode b_M_unlock 35 = .ok (.iconst 0, 1) := by decide +kernel
theorem dM_unlock_36 : decode b_M_unlock 36 = .ok (.ireturn, 1) := by decide +kernel
theorem dM_await_0 : decode b_M_await 0 = .ok (.aload_n 0, 1) := by decide +kernel
theorem dM_await_1 : decode b_M_await 1 = .ok (.invokevirtual 104, 3) := by decide +kernel
theorem dM_await_4 : decode b_M_await 4 = .ok (.istore 4, 2) := by decide +kernel
theorem dM_await_6 : decode b_M_await 6 = .ok (.aload_n 0, 1) := by decide +kernel
theorem dM_await_7 : decode b_M_await 7 = .ok (.iload_n 1, 1) := by decide +kernel
theorem dM_await_8 : decode b_M_await 8 = .ok (.iconst 2, 1) := by decide +kernel
theorem dM_await_9 : decode b_M_await 9 = .ok (.invokevirtual 100, 3) := by decide +kernel
theorem dM_await_12 : decode b_M_await 12 = .ok (.ifCond .ne 39, 3) := by decide +kernel
theorem dM_await_15 : decode b_M_await 15 = .ok (.aload_n 0, 1) := by decide +kernel
theorem dM_await_16 : decode b_M_await 16 = .ok (.iload_n 2, 1) := by decide +kernel
theorem dM_await_17 : decode b_M_await 17 = .ok (.iconst 4, 1) := by decide +kernel
theorem dM_await_18 : decode b_M_await 18 = .ok (.invokevirtual 100, 3) := by decide +kernel
theorem dM_await_21 : decode b_M_await 21 = .ok (.ifCond .ne 30, 3) := by decide +kernel
theorem dM_await_24 : decode b_M_await 24 = .ok (.aload_n 0, 1) := by decide +kernel
theorem dM_await_25 : decode b_M_await 25 = .ok (.iload_n 3, 1) := by decide +kernel
theorem dM_await_26 : decode b_M_await 26 = .ok (.sipush 1001, 3) := by decide +kernel
theorem dM_await_29 : decode b_M_await 29 = .ok (.invokevirtual 100, 3) := by decide +kernel
theorem dM_await_32 : decode b_M_await 32 = .ok (.ifCond .ne 19, 3) := by decide +kernel
theorem dM_await_35 : decode b_M_await 35 = .ok (.iload 4, 2) := by decide +kernel
theorem dM_await_37 : decode b_M_await 37 = .ok (.ifCond .lt 14, 3) := by decide +kernel
theorem dM_await_40 : decode b_M_await 40 = .ok (.aload_n 0, 1) := by decide +kernel
theorem dM_await_41 : decode b_M_await 41 = .ok (.getfield 57, 3) := by decide +kernel
theorem dM_await_44 : decode b_M_await 44 = .ok (.iload_n 2, 1) := by decide +kernel
theorem dM_await_45 : decode b_M_await 45 = .ok (.iaload, 1) := by decide +kernel
theorem dM_await_46 : decode b_M_await 46 = .ok (.iload 4, 2) := by decide +kernel
theorem dM_await_48 : decode b_M_await 48 = .ok (.if_icmp .eq 5, 3) := by decide +kernel
theorem dM_await_51 : decode b_M_await 51 = .ok (.iconst (-1), 1) := by decide +kernel
theorem dM_await_52 : decode b_M_await 52 = .ok (.ireturn, 1) := by decide +kernel
theorem dM_await_53 : decode b_M_await 53 = .ok (.aload_n 0, 1) := by decide +kernel
theorem dM_await_54 : decode b_M_await 54 = .ok (.iload 4, 2) := by decide +kernel
theorem dM_await_56 : decode b_M_await 56 = .ok (.bipush 20, 2) := by decide +kernel
theorem dM_await_58 : decode b_M_await 58 = .ok (.iload_n 1, 1) := by decide +kernel
theorem dM_await_59 : decode b_M_await 59 = .ok (.iadd, 1) := by decide +kernel
theorem dM_await_60 : decode b_M_await 60 = .ok (.iload_n 3, 1) := by decide +kernel
theorem dM_await_61 : decode b_M_await 61 = .ok (.ifCond .ne 7, 3) := by decide +kernel
theorem dM_await_64 : decode b_M_await 64 = .ok (.iconst 0, 1) := by decide +kernel
theorem dM_await_65 : decode b_M_await 65 = .ok (.goto 9, 3) := by decide +kernel
theorem dM_await_68 : decode b_M_await 68 = .ok (.aload_n 0, 1) := by decide +kernel
theorem dM_await_69 : decode b_M_await 69 = .ok (.getfield 7, 3) := by decide +kernel
theorem dM_await_72 : decode b_M_await 72 = .ok (.iload_n 3, 1) := by decide +kernel
theorem dM_await_73 : decode b_M_await 73 = .ok (.iadd, 1) := by decide +kernel
theorem dM_await_74 : decode b_M_await 74 = .ok (.invokevirtual 96, 3) := by decide +kernel
theorem dM_await_77 : decode b_M_await 77 = .ok (.aload_n 0, 1) := by decide +kernel
theorem dM_await_78 : decode b_M_await 78 = .ok (.getfield 41, 3) := by decide +kernel
theorem dM_await_81 : decode b_M_await 81 = .ok (.iload 4, 2) := by decide +kernel
theorem dM_await_83 : decode b_M_await 83 = .ok (.iload_n 2, 1) := by decide +kernel
theorem dM_await_84 : decode b_M_await 84 = .ok (.iastore, 1) := by decide +kernel
theorem dM_await_85 : decode b_M_await 85 = .ok (.aload_n 0, 1) := by decide +kernel
theorem dM_await_86 : decode b_M_await 86 = .ok (.iload_n 2, 1) := by decide +kernel
theorem dM_await_87 : decode b_M_await 87 = .ok (.invokevirtual 107, 3) := by decide +kernel
theorem dM_await_90 : decode b_M_await 90 = .ok (.iconst 1, 1) := by decide +kernel
theorem dM_await_91 : decode b_M_await 91 = .ok (.ireturn, 1) := by decide +kernel
theorem dM_signal_0 : decode b_M_signal 0 = .ok (.aload_n 0, 1) := by decide +kernel
theorem dM_signal_1 : decode b_M_signal 1 = .ok (.iload_n 1, 1) := by decide +kernel
theorem dM_signal_2 : decode b_M_signal 2 = .ok (.iconst 2, 1) := by decide +kernel
theorem dM_signal_3 : decode b_M_signal 3 = .ok (.invokevirtual 100, 3) := by decide +kernel
theorem dM_signal_6 : decode b_M_signal 6 = .ok (.ifCond .eq 5, 3) := by decide +kernel
theorem dM_signal_9 : decode b_M_signal 9 = .ok (.iconst (-1), 1) := by decide +kernel
theorem dM_signal_10 : decode b_M_signal 10 = .ok (.ireturn, 1) := by decide +kernel
theorem dM_signal_11 : decode b_M_signal 11 = .ok (.iconst 0, 1) := by decide +kernel
theorem dM_signal_12 : decode b_M_signal 12 = .ok (.istore_n 3, 1) := by decide +kernel
theorem dM_signal_13 : decode b_M_signal 13 = .ok (.iconst 0, 1) := by decide +kernel
theorem dM_signal_14 : decode b_M_signal 14 = .ok (.istore 4, 2) := by decide +kernel
theorem dM_signal_16 : decode b_M_signal 16 = .ok (.iload 4, 2) := by decide +kernel
theorem dM_signal_18 : decode b_M_signal 18 = .ok (.iload_n 2, 1) := by decide +kernel
theorem dM_signal_19 : decode b_M_signal 19 = .ok (.ifCond .eq 8, 3) := by decide +kernel
theorem dM_signal_22 : decode b_M_signal 22 = .ok (.bipush 8, 2) := by decide +kernel
theorem dM_signal_24 : decode b_M_signal 24 = .ok (.goto 4, 3) := by decide +kernel
theorem dM_signal_27 : decode b_M_signal 27 = .ok (.iconst 1, 1) := by decide +kernel
theorem dM_signal_28 : decode b_M_signal 28 = .ok (.if_icmp .ge 36, 3) := by decide +kernel
theorem dM_signal_31 : decode b_M_signal 31 = .ok (.aload_n 0, 1) := by decide +kernel
theorem dM_signal_32 : decode b_M_signal 32 = .ok (.bipush 20, 2) := by decide +kernel
theorem dM_signal_34 : decode b_M_signal 34 = .ok (.iload_n 1, 1) := by decide +kernel
theorem dM_signal_35 : decode b_M_signal 35 = .ok (.iadd, 1) := by decide +kernel
theorem dM_signal_36 : decode b_M_signal 36 = .ok (.invokevirtual 88, 3) := by decide +kernel
theorem dM_signal_39 : decode b_M_signal 39 = .ok (.istore 5, 2) := by decide +kernel
theorem dM_signal_41 : decode b_M_signal 41 = .ok (.iload 5, 2) := by decide +kernel
theorem dM_signal_43 : decode b_M_signal 43 = .ok (.ifCond .ge 5, 3) := by decide +kernel
theorem dM_signal_46 : decode b_M_signal 46 = .ok (.iload_n 3, 1) := by decide +kernel
theorem dM_signal_47 : decode b_M_signal 47 = .ok (.ireturn, 1) := by decide +kernel
theorem dM_signal_48 : decode b_M_signal 48 = .ok (.aload_n 0, 1) := by decide +kernel
theorem dM_signal_49 : decode b_M_signal 49 = .ok (.iload 5, 2) := by decide +kernel
theorem dM_signal_51 : decode b_M_signal 51 = .ok (.iconst 0, 1) := by decide +kernel
theorem dM_signal_52 : decode b_M_signal 52 = .ok (.invokevirtual 110, 3) := by decide +kernel
theorem dM_signal_55 : decode b_M_signal 55 = .ok (.iinc 3 1, 3) := by decide +kernel
theorem dM_signal_58 : decode b_M_signal 58 = .ok (.iinc 4 1, 3) := by decide +kernel
theorem dM_signal_61 : decode b_M_signal 61 = .ok (.goto (-45), 3) := by decide +kernel
theorem dM_signal_64 : decode b_M_signal 64 = .ok (.iload_n 3, 1) := by decide +kernel
theorem dM_signal_65 : decode b_M_signal 65 = .ok (.ireturn, 1) := by decide +kernel
theorem dM_down_0 : decode b_M_down 0 = .ok (.aload_n 0, 1) := by decide +kernel
theorem dM_down_1 : decode b_M_down 1 = .ok (.invokevirtual 104, 3) := by decide +kernel
theorem dM_down_4 : decode b_M_down 4 = .ok (.istore_n 3, 1) := by decide +kernel
theorem dM_down_5 : decode b_M_down 5 = .ok (.aload_n 0, 1) := by decide +kernel
theorem dM_down_6 : decode b_M_down 6 = .ok (.iload_n 1, 1) := by decide +kernel
theorem dM_down_7 : decode b_M_down 7 = .ok (.iconst 2, 1) := by decide +kernel
theorem dM_down_8 : decode b_M_down 8 = .ok (.invokevirtual 100, 3) := by decide +kernel
theorem dM_down_11 : decode b_M_down 11 = .ok (.ifCond .ne 18, 3) := by decide +kernel
theorem dM_down_14 : decode b_M_down 14 = .ok (.aload_n 0, 1) := by decide +kernel
theorem dM_down_15 : decode b_M_down 15 = .ok (.iload_n 2, 1) := by decide +kernel
theorem dM_down_16 : decode b_M_down 16 = .ok (.sipush 1001, 3) := by decide +kernel
theorem dM_down_19 : decode b_M_down 19 = .ok (.invokevirtual 100, 3) := by decide +kernel
theorem dM_down_22 : decode b_M_down 22 = .ok (.ifCond .ne 7, 3) := by decide +kernel
theorem dM_down_25 : decode b_M_down 25 = .ok (.iload_n 3, 1) := by decide +kernel
theorem dM_down_26 : decode b_M_down 26 = .ok (.ifCond .ge 5, 3) := by decide +kernel
theorem dM_down_29 : decode b_M_down 29 = .ok (.iconst (-1), 1) := by decide +kernel
theorem dM_down_30 : decode b_M_down 30 = .ok (.ireturn, 1) := by decide +kernel
theorem dM_down_31 : decode b_M_down 31 = .ok (.aload_n 0, 1) := by decide +kernel
theorem dM_down_32 : decode b_M_down 32 = .ok (.getfield 60, 3) := by decide +kernel
theorem dM_down_35 : decode b_M_down 35 = .ok (.iload_n 1, 1) := by decide +kernel
theorem dM_down_36 : decode b_M_down 36 = .ok (.iaload, 1) := by decide +kernel
theorem dM_down_37 : decode b_M_down 37 = .ok (.ifCond .le 22, 3) := by decide +kernel
theorem dM_down_40 : decode b_M_down 40 = .ok (.aload_n 0, 1) := by decide +kernel
theorem dM_down_41 : decode b_M_down 41 = .ok (.getfield 60, 3) := by decide +kernel
theorem dM_down_44 : decode b_M_down 44 = .ok (.iload_n 1, 1) := by decide +kernel
theorem dM_down_45 : decode b_M_down 45 = .ok (.dup2, 1) := by decide +kernel
theorem dM_down_46 : decode b_M_down 46 = .ok (.iaload, 1) := by decide +kernel
theorem dM_down_47 : decode b_M_down 47 = .ok (.iconst 1, 1) := by decide +kernel
theorem dM_down_48 : decode b_M_down 48 = .ok (.isub, 1) := by decide +kernel
theorem dM_down_49 : decode b_M_down 49 = .ok (.iastore, 1) := by decide +kernel
theorem dM_down_50 : decode b_M_down 50 = .ok (.aload_n 0, 1) := by decide +kernel
theorem dM_down_51 : decode b_M_down 51 = .ok (.getfield 38, 3) := by decide +kernel
theorem dM_down_54 : decode b_M_down 54 = .ok (.iload_n 3, 1) := by decide +kernel
theorem dM_down_55 : decode b_M_down 55 = .ok (.iconst 0, 1) := by decide +kernel
theorem dM_down_56 : decode b_M_down 56 = .ok (.iastore, 1) := by decide +kernel
theorem dM_down_57 : decode b_M_down 57 = .ok (.iconst 0, 1) := by decide +kernel
theorem dM_down_58 : decode b_M_down 58 = .ok (.ireturn, 1) := by decide +kernel
theorem dM_down_59 : decode b_M_down 59 = .ok (.aload_n 0, 1) := by decide +kernel
theorem dM_down_60 : decode b_M_down 60 = .ok (.iload_n 3, 1) := by decide +kernel
theorem dM_down_61 : decode b_M_down 61 = .ok (.bipush 30, 2) := by decide +kernel
theorem dM_down_63 : decode b_M_down 63 = .ok (.iload_n 1, 1) := by decide +kernel
theorem dM_down_64 : decode b_M_down 64 = .ok (.iadd, 1) := by decide +kernel
theorem dM_down_65 : decode b_M_down 65 = .ok (.iload_n 2, 1) := by decide +kernel
theorem dM_down_66 : decode b_M_down 66 = .ok (.ifCond .ne 7, 3) := by decide +kernel
theorem dM_down_69 : decode b_M_down 69 = .ok (.iconst 0, 1) := by decide +kernel
theorem dM_down_70 : decode b_M_down 70 = .ok (.goto 9, 3) := by decide +kernel
theorem dM_down_73 : decode b_M_down 73 = .ok (.aload_n 0, 1) := by decide +kernel
theorem dM_down_74 : decode b_M_down 74 = .ok (.getfield 7, 3) := by decide +kernel
theorem dM_down_77 : decode b_M_down 77 = .ok (.iload_n 2, 1) := by decide +kernel
theorem dM_down_78 : decode b_M_down 78 = .ok (.iadd, 1) := by decide +kernel
theorem dM_down_79 : decode b_M_down 79 = .ok (.invokevirtual 96, 3) := by decide +kernel
theorem dM_down_82 : decode b_M_down 82 = .ok (.iconst 1, 1) := by decide +kernel
theorem dM_down_83 : decode b_M_down 83 = .ok (.ireturn, 1) := by decide +kernel
theorem dM_post_0 : decode b_M_post 0 = .ok (.aload_n 0, 1) := by decide +kernel
theorem dM_post_1 : decode b_M_post 1 = .ok (.iload_n 1, 1) := by decide +kernel
theorem dM_post_2 : decode b_M_post 2 = .ok (.iconst 2, 1) := by decide +kernel
theorem dM_post_3 : decode b_M_post 3 = .ok (.invokevirtual 100, 3) := by decide +kernel
theorem dM_post_6 : decode b_M_post 6 = .ok (.ifCond .eq 5, 3) := by decide +kernel
theorem dM_post_9 : decode b_M_post 9 = .ok (.iconst (-1), 1) := by decide +kernel
theorem dM_post_10 : decode b_M_post 10 = .ok (.ireturn, 1) := by decide +kernel
theorem dM_post_11 : decode b_M_post 11 = .ok (.aload_n 0, 1) := by decide +kernel
theorem dM_post_12 : decode b_M_post 12 = .ok (.bipush 30, 2) := by decide +kernel
theorem dM_post_14 : decode b_M_post 14 = .ok (.iload_n 1, 1) := by decide +kernel
theorem dM_post_15 : decode b_M_post 15 = .ok (.iadd, 1) := by decide +kernel
theorem dM_post_16 : decode b_M_post 16 = .ok (.invokevirtual 88, 3) := by decide +kernel
theorem dM_post_19 : decode b_M_post 19 = .ok (.istore_n 2, 1) := by decide +kernel
theorem dM_post_20 : decode b_M_post 20 = .ok (.iload_n 2, 1) := by decide +kernel
theorem dM_post_21 : decode b_M_post 21 = .ok (.ifCond .lt 17, 3) := by decide +kernel
theorem dM_post_24 : decode b_M_post 24 = .ok (.aload_n 0, 1) := by decide +kernel
theorem dM_post_25 : decode b_M_post 25 = .ok (.getfield 38, 3) := by decide +kernel
theorem dM_post_28 : decode b_M_post 28 = .ok (.iload_n 2, 1) := by decide +kernel
theorem dM_post_29 : decode b_M_post 29 = .ok (.iconst 0, 1) := by decide +kernel
theorem dM_post_30 : decode b_M_post 30 = .ok (.iastore, 1) := by decide +kernel
theorem dM_post_31 : decode b_M_post 31 = .ok (.aload_n 0, 1) := by decide +kernel
theorem dM_post_32 : decode b_M_post 32 = .ok (.iload_n 2, 1) := by decide +kernel
theorem dM_post_33 : decode b_M_post 33 = .ok (.invokevirtual 92, 3) := by decide +kernel
theorem dM_post_36 : decode b_M_post 36 = .ok (.iconst 0, 1) := by decide +kernel
theorem dM_post_37 : decode b_M_post 37 = .ok (.ireturn, 1) := by decide +kernel
theorem dM_post_38 : decode b_M_post 38 = .ok (.aload_n 0, 1) := by decide +kernel
theorem dM_post_39 : decode b_M_post 39 = .ok (.getfield 60, 3) := by decide +kernel
theorem dM_post_42 : decode b_M_post 42 = .ok (.iload_n 1, 1) := by decide +kernel
theorem dM_post_43 : decode b_M_post 43 = .ok (.iaload, 1) := by decide +kernel
theorem dM_post_44 : decode b_M_post 44 = .ok (.bipush 99, 2) := by decide +kernel
theorem dM_post_46 : decode b_M_post 46 = .ok (.if_icmp .ne 5, 3) := by decide +kernel
theorem dM_post_49 : decode b_M_post 49 = .ok (.iconst (-1), 1) := by decide +kernel
theorem dM_post_50 : decode b_M_post 50 = .ok (.ireturn, 1) := by decide +kernel
theorem dM_post_51 : decode b_M_post 51 = .ok (.aload_n 0, 1) := by decide +kernel
theorem dM_post_52 : decode b_M_post 52 = .ok (.getfield 60, 3) := by decide +kernel
theorem dM_post_55 : decode b_M_post 55 = .ok (.iload_n 1, 1) := by decide +kernel
theorem dM_post_56 : decode b_M_post 56 = .ok (.dup2, 1) := by decide +kernel
theorem dM_post_57 : decode b_M_post 57 = .ok (.iaload, 1) := by decide +kernel
theorem dM_post_58 : decode b_M_post 58 = .ok (.iconst 1, 1) := by decide +kernel
theorem dM_post_59 : decode b_M_post 59 = .ok (.iadd, 1) := by decide +kernel
theorem dM_post_60 : decode b_M_post 60 = .ok (.iastore, 1) := by decide +kernel
theorem dM_post_61 : decode b_M_post 61 = .ok (.iconst 0, 1) := by decide +kernel
theorem dM_post_62 : decode b_M_post 62 = .ok (.ireturn, 1) := by decide +kernel
theorem dM_comeIn_0 : decode b_M_comeIn 0 = .ok (.iload_n 1, 1) := by decide +kernel
theorem dM_comeIn_1 : decode b_M_comeIn 1 = .ok (.iconst 4, 1) := by decide +kernel
theorem dM_comeIn_2 : decode b_M_comeIn 2 = .ok (.imul, 1) := by decide +kernel
theorem dM_comeIn_3 : decode b_M_comeIn 3 = .ok (.aload_n 0, 1) := by decide +kernel
theorem dM_comeIn_4 : decode b_M_comeIn 4 = .ok (.getfield 63, 3) := by decide +kernel
theorem dM_comeIn_7 : decode b_M_comeIn 7 = .ok (.iload_n 1, 1) := by decide +kernel
theorem dM_comeIn_8 : decode b_M_comeIn 8 = .ok (.iaload, 1) := by decide +kernel
theorem dM_comeIn_9 : decode b_M_comeIn 9 = .ok (.iadd, 1) := by decide +kernel
theorem dM_comeIn_10 : decode b_M_comeIn 10 = .ok (.istore 4, 2) := by decide +kernel
theorem dM_comeIn_12 : decode b_M_comeIn 12 = .ok (.iload 4, 2) := by decide +kernel
theorem dM_comeIn_14 : decode b_M_comeIn 14 = .ok (.iload_n 1, 1) := by decide +kernel
theorem dM_comeIn_15 : decode b_M_comeIn 15 = .ok (.iconst 4, 1) := by decide +kernel
theorem dM_comeIn_16 : decode b_M_comeIn 16 = .ok (.imul, 1) := by decide +kernel
theorem dM_comeIn_17 : decode b_M_comeIn 17 = .ok (.if_icmp .le 54, 3) := by decide +kernel
theorem dM_comeIn_20 : decode b_M_comeIn 20 = .ok (.aload_n 0, 1) := by decide +kernel
theorem dM_comeIn_21 : decode b_M_comeIn 21 = .ok (.getfield 66, 3) := by decide +kernel
theorem dM_comeIn_24 : decode b_M_comeIn 24 = .ok (.iload 4, 2) := by decide +kernel
theorem dM_comeIn_26 : decode b_M_comeIn 26 = .ok (.iconst 1, 1) := by decide +kernel
theorem dM_comeIn_27 : decode b_M_comeIn 27 = .ok (.isub, 1) := by decide +kernel
theorem dM_comeIn_28 : decode b_M_comeIn 28 = .ok (.iaload, 1) := by decide +kernel
theorem dM_comeIn_29 : decode b_M_comeIn 29 = .ok (.iload_n 2, 1) := by decide +kernel
theorem dM_comeIn_30 : decode b_M_comeIn 30 = .ok (.if_icmp .ge 41, 3) := by decide +kernel
theorem dM_comeIn_33 : decode b_M_comeIn 33 = .ok (.aload_n 0, 1) := by decide +kernel
theorem dM_comeIn_34 : decode b_M_comeIn 34 = .ok (.getfield 66, 3) := by decide +kernel
theorem dM_comeIn_37 : decode b_M_comeIn 37 = .ok (.iload 4, 2) := by decide +kernel
theorem dM_comeIn_39 : decode b_M_comeIn 39 = .ok (.aload_n 0, 1) := by decide +kernel
theorem dM_comeIn_40 : decode b_M_comeIn 40 = .ok (.getfield 66, 3) := by decide +kernel
theorem dM_comeIn_43 : decode b_M_comeIn 43 = .ok (.iload 4, 2) := by decide +kernel
theorem dM_comeIn_45 : decode b_M_comeIn 45 = .ok (.iconst 1, 1) := by decide +kernel
theorem dM_comeIn_46 : decode b_M_comeIn 46 = .ok (.isub, 1) := by decide +kernel
theorem dM_comeIn_47 : decode b_M_comeIn 47 = .ok (.iaload, 1) := by decide +kernel
theorem dM_comeIn_48 : decode b_M_comeIn 48 = .ok (.iastore, 1) := by decide +kernel
theorem dM_comeIn_49 : decode b_M_comeIn 49 = .ok (.aload_n 0, 1) := by decide +kernel
theorem dM_comeIn_50 : decode b_M_comeIn 50 = .ok (.getfield 69, 3) := by decide +kernel
theorem dM_comeIn_53 : decode b_M_comeIn 53 = .ok (.iload 4, 2) := by decide +kernel
theorem dM_comeIn_55 : decode b_M_comeIn 55 = .ok (.aload_n 0, 1) := by decide +kernel
theorem dM_comeIn_56 : decode b_M_comeIn 56 = .ok (.getfield 69, 3) := by decide +kernel
theorem dM_comeIn_59 : decode b_M_comeIn 59 = .ok (.iload 4, 2) := by decide +kernel
theorem dM_comeIn_61 : decode b_M_comeIn 61 = .ok (.iconst 1, 1) := by decide +kernel
theorem dM_comeIn_62 : decode b_M_comeIn 62 = .ok (.isub, 1) := by decide +kernel
theorem dM_comeIn_63 : decode b_M_comeIn 63 = .ok (.iaload, 1) := by decide +kernel
theorem dM_comeIn_64 : decode b_M_comeIn 64 = .ok (.iastore, 1) := by decide +kernel
theorem dM_comeIn_65 : decode b_M_comeIn 65 = .ok (.iinc 4 (-1), 3) := by decide +kernel
theorem dM_comeIn_68 : decode b_M_comeIn 68 = .ok (.goto (-56), 3) := by decide +kernel
theorem dM_comeIn_71 : decode b_M_comeIn 71 = .ok (.aload_n 0, 1) := by decide +kernel
theorem dM_comeIn_72 : decode b_M_comeIn 72 = .ok (.getfield 66, 3) := by decide +kernel
theorem dM_comeIn_75 : decode b_M_comeIn 75 = .ok (.iload 4, 2) := by decide +kernel
theorem dM_comeIn_77 : decode b_M_comeIn 77 = .ok (.iload_n 2, 1) := by decide +kernel
theorem dM_comeIn_78 : decode b_M_comeIn 78 = .ok (.iastore, 1) := by decide +kernel
theorem dM_comeIn_79 : decode b_M_comeIn 79 = .ok (.aload_n 0, 1) := by decide +kernel
theorem dM_comeIn_80 : decode b_M_comeIn 80 = .ok (.getfield 69, 3) := by decide +kernel
theorem dM_comeIn_83 : decode b_M_comeIn 83 = .ok (.iload 4, 2) := by decide +kernel
theorem dM_comeIn_85 : decode b_M_comeIn 85 = .ok (.iload_n 3, 1) := by decide +kernel
theorem dM_comeIn_86 : decode b_M_comeIn 86 = .ok (.iastore, 1) := by decide +kernel
theorem dM_comeIn_87 : decode b_M_comeIn 87 = .ok (.aload_n 0, 1) := by decide +kernel
theorem dM_comeIn_88 : decode b_M_comeIn 88 = .ok (.getfield 63, 3) := by decide +kernel
theorem dM_comeIn_91 : decode b_M_comeIn 91 = .ok (.iload_n 1, 1) := by decide +kernel
theorem dM_comeIn_92 : decode b_M_comeIn 92 = .ok (.dup2, 1) := by decide +kernel
theorem dM_comeIn_93 : decode b_M_comeIn 93 = .ok (.iaload, 1) := by decide +kernel
theorem dM_comeIn_94 : decode b_M_comeIn 94 = .ok (.iconst 1, 1) := by decide +kernel
theorem dM_comeIn_95 : decode b_M_comeIn 95 = .ok (.iadd, 1) := by decide +kernel
theorem dM_comeIn_96 : decode b_M_comeIn 96 = .ok (.iastore, 1) := by decide +kernel
theorem dM_comeIn_97 : decode b_M_comeIn 97 = .ok (.return_, 1) := by decide +kernel
theorem dM_send_0 : decode b_M_send 0 = .ok (.aload_n 0, 1) := by decide +kernel
theorem dM_send_1 : decode b_M_send 1 = .ok (.invokevirtual 104, 3) := by decide +kernel
theorem dM_send_4 : decode b_M_send 4 = .ok (.istore 4, 2) := by decide +kernel
theorem dM_send_6 : decode b_M_send 6 = .ok (.aload_n 0, 1) := by decide +kernel
theorem dM_send_7 : decode b_M_send 7 = .ok (.iload_n 1, 1) := by decide +kernel
theorem dM_send_8 : decode b_M_send 8 = .ok (.iconst 2, 1) := by decide +kernel
theorem dM_send_9 : decode b_M_send 9 = .ok (.invokevirtual 100, 3) := by decide +kernel
theorem dM_send_12 : decode b_M_send 12 = .ok (.ifCond .ne 18, 3) := by decide +kernel
theorem dM_send_15 : decode b_M_send 15 = .ok (.aload_n 0, 1) := by decide +kernel
theorem dM_send_16 : decode b_M_send 16 = .ok (.iload_n 2, 1) := by decide +kernel
theorem dM_send_17 : decode b_M_send 17 = .ok (.bipush 10, 2) := by decide +kernel
theorem dM_send_19 : decode b_M_send 19 = .ok (.invokevirtual 100, 3) := by decide +kernel
theorem dM_send_22 : decode b_M_send 22 = .ok (.ifCond .ne 8, 3) := by decide +kernel
theorem dM_send_25 : decode b_M_send 25 = .ok (.iload 4, 2) := by decide +kernel
theorem dM_send_27 : decode b_M_send 27 = .ok (.ifCond .ge 5, 3) := by decide +kernel
theorem dM_send_30 : decode b_M_send 30 = .ok (.iconst (-1), 1) := by decide +kernel
theorem dM_send_31 : decode b_M_send 31 = .ok (.ireturn, 1) := by decide +kernel
theorem dM_send_32 : decode b_M_send 32 = .ok (.aload_n 0, 1) := by decide +kernel
theorem dM_send_33 : decode b_M_send 33 = .ok (.getfield 63, 3) := by decide +kernel
theorem dM_send_36 : decode b_M_send 36 = .ok (.iload_n 1, 1) := by decide +kernel
theorem dM_send_37 : decode b_M_send 37 = .ok (.iaload, 1) := by decide +kernel
theorem dM_send_38 : decode b_M_send 38 = .ok (.iconst 4, 1) := by decide +kernel
theorem dM_send_39 : decode b_M_send 39 = .ok (.if_icmp .ne 32, 3) := by decide +kernel
theorem dM_send_42 : decode b_M_send 42 = .ok (.aload_n 0, 1) := by decide +kernel
theorem dM_send_43 : decode b_M_send 43 = .ok (.iload 4, 2) := by decide +kernel
theorem dM_send_45 : decode b_M_send 45 = .ok (.bipush 40, 2) := by decide +kernel
theorem dM_send_47 : decode b_M_send 47 = .ok (.iload_n 1, 1) := by decide +kernel
theorem dM_send_48 : decode b_M_send 48 = .ok (.iadd, 1) := by decide +kernel
theorem dM_send_49 : decode b_M_send 49 = .ok (.iconst 0, 1) := by decide +kernel
theorem dM_send_50 : decode b_M_send 50 = .ok (.invokevirtual 96, 3) := by decide +kernel
theorem dM_send_53 : decode b_M_send 53 = .ok (.aload_n 0, 1) := by decide +kernel
theorem dM_send_54 : decode b_M_send 54 = .ok (.getfield 44, 3) := by decide +kernel
theorem dM_send_57 : decode b_M_send 57 = .ok (.iload 4, 2) := by decide +kernel
theorem dM_send_59 : decode b_M_send 59 = .ok (.iload_n 2, 1) := by decide +kernel
theorem dM_send_60 : decode b_M_send 60 = .ok (.iastore, 1) := by decide +kernel
theorem dM_send_61 : decode b_M_send 61 = .ok (.aload_n 0, 1) := by decide +kernel
theorem dM_send_62 : decode b_M_send 62 = .ok (.getfield 47, 3) := by decide +kernel
theorem dM_send_65 : decode b_M_send 65 = .ok (.iload 4, 2) := by decide +kernel
theorem dM_send_67 : decode b_M_send 67 = .ok (.iload_n 3, 1) := by decide +kernel
theorem dM_send_68 : decode b_M_send 68 = .ok (.iastore, 1) := by decide +kernel
theorem dM_send_69 : decode b_M_send 69 = .ok (.iconst 1, 1) := by decide +kernel
theorem dM_send_70 : decode b_M_send 70 = .ok (.ireturn, 1) := by decide +kernel
theorem dM_send_71 : decode b_M_send 71 = .ok (.aload_n 0, 1) := by decide +kernel
theorem dM_send_72 : decode b_M_send 72 = .ok (.getfield 38, 3) := by decide +kernel
theorem dM_send_75 : decode b_M_send 75 = .ok (.iload 4, 2) := by decide +kernel
theorem dM_send_77 : decode b_M_send 77 = .ok (.iconst 0, 1) := by decide +kernel
theorem dM_send_78 : decode b_M_send 78 = .ok (.iastore, 1) := by decide +kernel
theorem dM_send_79 : decode b_M_send 79 = .ok (.aload_n 0, 1) := by decide +kernel
theorem dM_send_80 : decode b_M_send 80 = .ok (.bipush 50, 2) := by decide +kernel
theorem dM_send_82 : decode b_M_send 82 = .ok (.iload_n 1, 1) := by decide +kernel
theorem dM_send_83 : decode b_M_send 83 = .ok (.iadd, 1) := by decide +kernel
theorem dM_send_84 : decode b_M_send 84 = .ok (.invokevirtual 88, 3) := by decide +kernel
theorem dM_send_87 : decode b_M_send 87 = .ok (.istore 5, 2) := by decide +kernel
theorem dM_send_89 : decode b_M_send 89 = .ok (.iload 5, 2) := by decide +kernel
theorem dM_send_91 : decode b_M_send 91 = .ok (.ifCond .ge 12, 3) := by decide +kernel
theorem dM_send_94 : decode b_M_send 94 = .ok (.aload_n 0, 1) := by decide +kernel
theorem dM_send_95 : decode b_M_send 95 = .ok (.iload_n 1, 1) := by decide +kernel
theorem dM_send_96 : decode b_M_send 96 = .ok (.iload_n 2, 1) := by decide +kernel
theorem dM_send_97 : decode b_M_send 97 = .ok (.iload_n 3, 1) := by decide +kernel
theorem dM_send_98 : decode b_M_send 98 = .ok (.invokevirtual 114, 3) := by decide +kernel
theorem dM_send_101 : decode b_M_send 101 = .ok (.iconst 0, 1) := by decide +kernel
theorem dM_send_102 : decode b_M_send 102 = .ok (.ireturn, 1) := by decide +kernel
theorem dM_send_103 : decode b_M_send 103 = .ok (.aload_n 0, 1) := by decide +kernel
theorem dM_send_104 : decode b_M_send 104 = .ok (.getfield 38, 3) := by decide +kernel
theorem dM_send_107 : decode b_M_send 107 = .ok (.iload 5, 2) := by decide +kernel
theorem dM_send_109 : decode b_M_send 109 = .ok (.iload_n 3, 1) := by decide +kernel
theorem dM_send_110 : decode b_M_send 110 = .ok (.iastore, 1) := by decide +kernel
theorem dM_send_111 : decode b_M_send 111 = .ok (.aload_n 0, 1) := by decide +kernel
theorem dM_send_112 : decode b_M_send 112 = .ok (.iload 5, 2) := by decide +kernel
theorem dM_send_114 : decode b_M_send 114 = .ok (.invokevirtual 92, 3) := by decide +kernel
theorem dM_send_117 : decode b_M_send 117 = .ok (.iconst 0, 1) := by decide +kernel
theorem dM_send_118 : decode b_M_send 118 = .ok (.ireturn, 1) := by decide +kernel
theorem dM_receive_0 : decode b_M_receive 0 = .ok (.aload_n 0, 1) := by decide +kernel
theorem dM_receive_1 : decode b_M_receive 1 = .ok (.invokevirtual 104, 3) := by decide +kernel
theorem dM_receive_4 : decode b_M_receive 4 = .ok (.istore_n 2, 1) := by decide +kernel
theorem dM_receive_5 : decode b_M_receive 5 = .ok (.aload_n 0, 1) := by decide +kernel
theorem dM_receive_6 : decode b_M_receive 6 = .ok (.iload_n 1, 1) := by decide +kernel
theorem dM_receive_7 : decode b_M_receive 7 = .ok (.iconst 2, 1) := by decide +kernel
theorem dM_receive_8 : decode b_M_receive 8 = .ok (.invokevirtual 100, 3) := by decide +kernel
theorem dM_receive_11 : decode b_M_receive 11 = .ok (.ifCond .ne 7, 3) := by decide +kernel
theorem dM_receive_14 : decode b_M_receive 14 = .ok (.iload_n 2, 1) := by decide +kernel
theorem dM_receive_15 : decode b_M_receive 15 = .ok (.ifCond .ge 5, 3) := by decide +kernel
theorem dM_receive_18 : decode b_M_receive 18 = .ok (.iconst (-1), 1) := by decide +kernel
theorem dM_receive_19 : decode b_M_receive 19 = .ok (.ireturn, 1) := by decide +kernel
theorem dM_receive_20 : decode b_M_receive 20 = .ok (.aload_n 0, 1) := by decide +kernel
theorem dM_receive_21 : decode b_M_receive 21 = .ok (.getfield 63, 3) := by decide +kernel
theorem dM_receive_24 : decode b_M_receive 24 = .ok (.iload_n 1, 1) := by decide +kernel
theorem dM_receive_25 : decode b_M_receive 25 = .ok (.iaload, 1) := by decide +kernel
theorem dM_receive_26 : decode b_M_receive 26 = .ok (.ifCond .ne 15, 3) := by decide +kernel
theorem dM_receive_29 : decode b_M_receive 29 = .ok (.aload_n 0, 1) := by decide +kernel
theorem dM_receive_30 : decode b_M_receive 30 = .ok (.iload_n 2, 1) := by decide +kernel
theorem dM_receive_31 : decode b_M_receive 31 = .ok (.bipush 50, 2) := by decide +kernel
theorem dM_receive_33 : decode b_M_receive 33 = .ok (.iload_n 1, 1) := by decide +kernel
theorem dM_receive_34 : decode b_M_receive 34 = .ok (.iadd, 1) := by decide +kernel
theorem dM_receive_35 : decode b_M_receive 35 = .ok (.iconst 0, 1) := by decide +kernel
theorem dM_receive_36 : decode b_M_receive 36 = .ok (.invokevirtual 96, 3) := by decide +kernel
theorem dM_receive_39 : decode b_M_receive 39 = .ok (.iconst 1, 1) := by decide +kernel
theorem dM_receive_40 : decode b_M_receive 40 = .ok (.ireturn, 1) := by decide +kernel
theorem dM_receive_41 : decode b_M_receive 41 = .ok (.aload_n 0, 1) := by decide +kernel
theorem dM_receive_42 : decode b_M_receive 42 = .ok (.getfield 38, 3) := by decide +kernel
theorem dM_receive_45 : decode b_M_receive 45 = .ok (.iload_n 2, 1) := by decide +kernel
theorem dM_receive_46 : decode b_M_receive 46 = .ok (.aload_n 0, 1) := by decide +kernel
theorem dM_receive_47 : decode b_M_receive 47 = .ok (.getfield 69, 3) := by decide +kernel
theorem dM_receive_50 : decode b_M_receive 50 = .ok (.iload_n 1, 1) := by decide +kernel
theorem dM_receive_51 : decode b_M_receive 51 = .ok (.iconst 4, 1) := by decide +kernel
theorem dM_receive_52 : decode b_M_receive 52 = .ok (.imul, 1) := by decide +kernel
theorem dM_receive_53 : decode b_M_receive 53 = .ok (.iaload, 1) := by decide +kernel
theorem dM_receive_54 : decode b_M_receive 54 = .ok (.iastore, 1) := by decide +kernel
theorem dM_receive_55 : decode b_M_receive 55 = .ok (.iload_n 1, 1) := by decide +kernel
theorem dM_receive_56 : decode b_M_receive 56 = .ok (.iconst 4, 1) := by decide +kernel
theorem dM_receive_57 : decode b_M_receive 57 = .ok (.imul, 1) := by decide +kernel
theorem dM_receive_58 : decode b_M_receive 58 = .ok (.istore_n 3, 1) := by decide +kernel
theorem dM_receive_59 : decode b_M_receive 59 = .ok (.iload_n 3, 1) := by decide +kernel
theorem dM_receive_60 : decode b_M_receive 60 = .ok (.iload_n 1, 1) := by decide +kernel
theorem dM_receive_61 : decode b_M_receive 61 = .ok (.iconst 4, 1) := by decide +kernel
theorem dM_receive_62 : decode b_M_receive 62 = .ok (.imul, 1) := by decide +kernel
theorem dM_receive_63 : decode b_M_receive 63 = .ok (.iconst 3, 1) := by decide +kernel
theorem dM_receive_64 : decode b_M_receive 64 = .ok (.iadd, 1) := by decide +kernel
theorem dM_receive_65 : decode b_M_receive 65 = .ok (.if_icmp .ge 37, 3) := by decide +kernel
theorem dM_receive_68 : decode b_M_receive 68 = .ok (.aload_n 0, 1) := by decide +kernel
theorem dM_receive_69 : decode b_M_receive 69 = .ok (.getfield 66, 3) := by decide +kernel
theorem dM_receive_72 : decode b_M_receive 72 = .ok (.iload_n 3, 1) := by decide +kernel
theorem dM_receive_73 : decode b_M_receive 73 = .ok (.aload_n 0, 1) := by decide +kernel
theorem dM_receive_74 : decode b_M_receive 74 = .ok (.getfield 66, 3) := by decide +kernel
theorem dM_receive_77 : decode b_M_receive 77 = .ok (.iload_n 3, 1) := by decide +kernel
theorem dM_receive_78 : decode b_M_receive 78 = .ok (.iconst 1, 1) := by decide +kernel
theorem dM_receive_79 : decode b_M_receive 79 = .ok (.iadd, 1) := by decide +kernel
theorem dM_receive_80 : decode b_M_receive 80 = .ok (.iaload, 1) := by decide +kernel
theorem dM_receive_81 : decode b_M_receive 81 = .ok (.iastore, 1) := by decide +kernel
theorem dM_receive_82 : decode b_M_receive 82 = .ok (.aload_n 0, 1) := by decide +kernel
theorem dM_receive_83 : decode b_M_receive 83 = .ok (.getfield 69, 3) := by decide +kernel
theorem dM_receive_86 : decode b_M_receive 86 = .ok (.iload_n 3, 1) := by decide +kernel
theorem dM_receive_87 : decode b_M_receive 87 = .ok (.aload_n 0, 1) := by decide +kernel
theorem dM_receive_88 : decode b_M_receive 88 = .ok (.getfield 69, 3) := by decide +kernel
theorem dM_receive_91 : decode b_M_receive 91 = .ok (.iload_n 3, 1) := by decide +kernel
theorem dM_receive_92 : decode b_M_receive 92 = .ok (.iconst 1, 1) := by decide +kernel
theorem dM_receive_93 : decode b_M_receive 93 = .ok (.iadd, 1) := by decide +kernel
theorem dM_receive_94 : decode b_M_receive 94 = .ok (.iaload, 1) := by decide +kernel
theorem dM_receive_95 : decode b_M_receive 95 = .ok (.iastore, 1) := by decide +kernel
theorem dM_receive_96 : decode b_M_receive 96 = .ok (.iinc 3 1, 3) := by decide +kernel
theorem dM_receive_99 : decode b_M_receive 99 = .ok (.goto (-40), 3) := by decide +kernel
theorem dM_receive_102 : decode b_M_receive 102 = .ok (.aload_n 0, 1) := by decide +kernel
theorem dM_receive_103 : decode b_M_receive 103 = .ok (.getfield 63, 3) := by decide +kernel
theorem dM_receive_106 : decode b_M_receive 106 = .ok (.iload_n 1, 1) := by decide +kernel
theorem dM_receive_107 : decode b_M_receive 107 = .ok (.dup2, 1) := by decide +kernel
theorem dM_receive_108 : decode b_M_receive 108 = .ok (.iaload, 1) := by decide +kernel
theorem dM_receive_109 : decode b_M_receive 109 = .ok (.iconst 1, 1) := by decide +kernel
theorem dM_receive_110 : decode b_M_receive 110 = .ok (.isub, 1) := by decide +kernel
theorem dM_receive_111 : decode b_M_receive 111 = .ok (.iastore, 1) := by decide +kernel
theorem dM_receive_112 : decode b_M_receive 112 = .ok (.aload_n 0, 1) := by decide +kernel
theorem dM_receive_113 : decode b_M_receive 113 = .ok (.bipush 40, 2) := by decide +kernel
theorem dM_receive_115 : decode b_M_receive 115 = .ok (.iload_n 1, 1) := by decide +kernel
theorem dM_receive_116 : decode b_M_receive 116 = .ok (.iadd, 1) := by decide +kernel
theorem dM_receive_117 : decode b_M_receive 117 = .ok (.invokevirtual 88, 3) := by decide +kernel
theorem dM_receive_120 : decode b_M_receive 120 = .ok (.istore_n 3, 1) := by decide +kernel
theorem dM_receive_121 : decode b_M_receive 121 = .ok (.iload_n 3, 1) := by decide +kernel
theorem dM_receive_122 : decode b_M_receive 122 = .ok (.ifCond .ge 5, 3) := by decide +kernel
theorem dM_receive_125 : decode b_M_receive 125 = .ok (.iconst 0, 1) := by decide +kernel
theorem dM_receive_126 : decode b_M_receive 126 = .ok (.ireturn, 1) := by decide +kernel
theorem dM_receive_127 : decode b_M_receive 127 = .ok (.aload_n 0, 1) := by decide +kernel
theorem dM_receive_128 : decode b_M_receive 128 = .ok (.iload_n 1, 1) := by decide +kernel
theorem dM_receive_129 : decode b_M_receive 129 = .ok (.aload_n 0, 1) := by decide +kernel
theorem dM_receive_130 : decode b_M_receive 130 = .ok (.getfield 44, 3) := by decide +kernel
theorem dM_receive_133 : decode b_M_receive 133 = .ok (.iload_n 3, 1) := by decide +kernel
theorem dM_receive_134 : decode b_M_receive 134 = .ok (.iaload, 1) := by decide +kernel
theorem dM_receive_135 : decode b_M_receive 135 = .ok (.aload_n 0, 1) := by decide +kernel
theorem dM_receive_136 : decode b_M_receive 136 = .ok (.getfield 47, 3) := by decide +kernel
theorem dM_receive_139 : decode b_M_receive 139 = .ok (.iload_n 3, 1) := by decide +kernel
theorem dM_receive_140 : decode b_M_receive 140 = .ok (.iaload, 1) := by decide +kernel
theorem dM_receive_141 : decode b_M_receive 141 = .ok (.invokevirtual 114, 3) := by decide +kernel
theorem dM_receive_144 : decode b_M_receive 144 = .ok (.aload_n 0, 1) := by decide +kernel
theorem dM_receive_145 : decode b_M_receive 145 = .ok (.getfield 38, 3) := by decide +kernel
theorem dM_receive_148 : decode b_M_receive 148 = .ok (.iload_n 3, 1) := by decide +kernel
theorem dM_receive_149 : decode b_M_receive 149 = .ok (.iconst 0, 1) := by decide +kernel
theorem dM_receive_150 : decode b_M_receive 150 = .ok (.iastore, 1) := by decide +kernel
theorem dM_receive_151 : decode b_M_receive 151 = .ok (.aload_n 0, 1) := by decide +kernel
theorem dM_receive_152 : decode b_M_receive 152 = .ok (.iload_n 3, 1) := by decide +kernel
theorem dM_receive_153 : decode b_M_receive 153 = .ok (.invokevirtual 92, 3) := by decide +kernel
theorem dM_receive_156 : decode b_M_receive 156 = .ok (.iconst 0, 1) := by decide +kernel
theorem dM_receive_157 : decode b_M_receive 157 = .ok (.ireturn, 1) := by decide +kernel
theorem dM_sleep_0 : decode b_M_sleep 0 = .ok (.aload_n 0, 1) := by decide +kernel
theorem dM_sleep_1 : decode b_M_sleep 1 = .ok (.invokevirtual 104, 3) := by decide +kernel
theorem dM_sleep_4 : decode b_M_sleep 4 = .ok (.istore_n 2, 1) := by decide +kernel
theorem dM_sleep_5 : decode b_M_sleep 5 = .ok (.iload_n 1, 1) := by decide +kernel
theorem dM_sleep_6 : decode b_M_sleep 6 = .ok (.iconst 1, 1) := by decide +kernel
theorem dM_sleep_7 : decode b_M_sleep 7 = .ok (.if_icmp .lt 14, 3) := by decide +kernel
theorem dM_sleep_10 : decode b_M_sleep 10 = .ok (.iload_n 1, 1) := by decide +kernel
theorem dM_sleep_11 : decode b_M_sleep 11 = .ok (.sipush 1000, 3) := by decide +kernel
theorem dM_sleep_14 : decode b_M_sleep 14 = .ok (.if_icmp .gt 7, 3) := by decide +kernel
theorem dM_sleep_17 : decode b_M_sleep 17 = .ok (.iload_n 2, 1) := by decide +kernel
theorem dM_sleep_18 : decode b_M_sleep 18 = .ok (.ifCond .ge 5, 3) := by decide +kernel
theorem dM_sleep_21 : decode b_M_sleep 21 = .ok (.iconst (-1), 1) := by decide +kernel
theorem dM_sleep_22 : decode b_M_sleep 22 = .ok (.ireturn, 1) := by decide +kernel
theorem dM_sleep_23 : decode b_M_sleep 23 = .ok (.aload_n 0, 1) := by decide +kernel
theorem dM_sleep_24 : decode b_M_sleep 24 = .ok (.iload_n 2, 1) := by decide +kernel
theorem dM_sleep_25 : decode b_M_sleep 25 = .ok (.bipush 60, 2) := by decide +kernel
theorem dM_sleep_27 : decode b_M_sleep 27 = .ok (.aload_n 0, 1) := by decide +kernel
theorem dM_sleep_28 : decode b_M_sleep 28 = .ok (.getfield 7, 3) := by decide +kernel
theorem dM_sleep_31 : decode b_M_sleep 31 = .ok (.iload_n 1, 1) := by decide +kernel
theorem dM_sleep_32 : decode b_M_sleep 32 = .ok (.iadd, 1) := by decide +kernel
theorem dM_sleep_33 : decode b_M_sleep 33 = .ok (.invokevirtual 96, 3) := by decide +kernel
theorem dM_sleep_36 : decode b_M_sleep 36 = .ok (.iconst 1, 1) := by decide +kernel
theorem dM_sleep_37 : decode b_M_sleep 37 = .ok (.ireturn, 1) := by decide +kernel
theorem dM_join_0 : decode b_M_join 0 = .ok (.aload_n 0, 1) := by decide +kernel
theorem dM_join_1 : decode b_M_join 1 = .ok (.invokevirtual 104, 3) := by decide +kernel
theorem dM_join_4 : decode b_M_join 4 = .ok (.istore_n 2, 1) := by decide +kernel
theorem dM_join_5 : decode b_M_join 5 = .ok (.aload_n 0, 1) := by decide +kernel
theorem dM_join_6 : decode b_M_join 6 = .ok (.iload_n 1, 1) := by decide +kernel
theorem dM_join_7 : decode b_M_join 7 = .ok (.bipush 8, 2) := by decide +kernel
theorem dM_join_9 : decode b_M_join 9 = .ok (.invokevirtual 100, 3) := by decide +kernel
theorem dM_join_12 : decode b_M_join 12 = .ok (.ifCond .ne 7, 3) := by decide +kernel
theorem dM_join_15 : decode b_M_join 15 = .ok (.iload_n 2, 1) := by decide +kernel
theorem dM_join_16 : decode b_M_join 16 = .ok (.ifCond .ge 5, 3) := by decide +kernel
theorem dM_join_19 : decode b_M_join 19 = .ok (.iconst (-1), 1) := by decide +kernel
theorem dM_join_20 : decode b_M_join 20 = .ok (.ireturn, 1) := by decide +kernel
theorem dM_join_21 : decode b_M_join 21 = .ok (.aload_n 0, 1) := by decide +kernel
theorem dM_join_22 : decode b_M_join 22 = .ok (.getfield 16, 3) := by decide +kernel
theorem dM_join_25 : decode b_M_join 25 = .ok (.iload_n 1, 1) := by decide +kernel
theorem dM_join_26 : decode b_M_join 26 = .ok (.iaload, 1) := by decide +kernel
theorem dM_join_27 : decode b_M_join 27 = .ok (.iconst 3, 1) := by decide +kernel
theorem dM_join_28 : decode b_M_join 28 = .ok (.if_icmp .ne 24, 3) := by decide +kernel
theorem dM_join_31 : decode b_M_join 31 = .ok (.aload_n 0, 1) := by decide +kernel
theorem dM_join_32 : decode b_M_join 32 = .ok (.getfield 16, 3) := by decide +kernel
theorem dM_join_35 : decode b_M_join 35 = .ok (.iload_n 1, 1) := by decide +kernel
theorem dM_join_36 : decode b_M_join 36 = .ok (.iconst 0, 1) := by decide +kernel
theorem dM_join_37 : decode b_M_join 37 = .ok (.iastore, 1) := by decide +kernel
theorem dM_join_38 : decode b_M_join 38 = .ok (.aload_n 0, 1) := by decide +kernel
theorem dM_join_39 : decode b_M_join 39 = .ok (.getfield 38, 3) := by decide +kernel
theorem dM_join_42 : decode b_M_join 42 = .ok (.iload_n 2, 1) := by decide +kernel
theorem dM_join_43 : decode b_M_join 43 = .ok (.aload_n 0, 1) := by decide +kernel
theorem dM_join_44 : decode b_M_join 44 = .ok (.getfield 38, 3) := by decide +kernel
theorem dM_join_47 : decode b_M_join 47 = .ok (.iload_n 1, 1) := by decide +kernel
theorem dM_join_48 : decode b_M_join 48 = .ok (.iaload, 1) := by decide +kernel
theorem dM_join_49 : decode b_M_join 49 = .ok (.iastore, 1) := by decide +kernel
theorem dM_join_50 : decode b_M_join 50 = .ok (.iconst 0, 1) := by decide +kernel
theorem dM_join_51 : decode b_M_join 51 = .ok (.ireturn, 1) := by decide +kernel
theorem dM_join_52 : decode b_M_join 52 = .ok (.aload_n 0, 1) := by decide +kernel
theorem dM_join_53 : decode b_M_join 53 = .ok (.getfield 16, 3) := by decide +kernel
theorem dM_join_56 : decode b_M_join 56 = .ok (.iload_n 1, 1) := by decide +kernel
theorem dM_join_57 : decode b_M_join 57 = .ok (.iaload, 1) := by decide +kernel
theorem dM_join_58 : decode b_M_join 58 = .ok (.ifCond .eq 19, 3) := by decide +kernel
theorem dM_join_61 : decode b_M_join 61 = .ok (.iload_n 1, 1) := by decide +kernel
theorem dM_join_62 : decode b_M_join 62 = .ok (.iload_n 2, 1) := by decide +kernel
theorem dM_join_63 : decode b_M_join 63 = .ok (.if_icmp .eq 14, 3) := by decide +kernel
theorem dM_join_66 : decode b_M_join 66 = .ok (.aload_n 0, 1) := by decide +kernel
theorem dM_join_67 : decode b_M_join 67 = .ok (.bipush 70, 2) := by decide +kernel
theorem dM_join_69 : decode b_M_join 69 = .ok (.iload_n 1, 1) := by decide +kernel
theorem dM_join_70 : decode b_M_join 70 = .ok (.iadd, 1) := by decide +kernel
theorem dM_join_71 : decode b_M_join 71 = .ok (.invokevirtual 88, 3) := by decide +kernel
theorem dM_join_74 : decode b_M_join 74 = .ok (.ifCond .lt 5, 3) := by decide +kernel
theorem dM_join_77 : decode b_M_join 77 = .ok (.iconst (-1), 1) := by decide +kernel
theorem dM_join_78 : decode b_M_join 78 = .ok (.ireturn, 1) := by decide +kernel
theorem dM_join_79 : decode b_M_join 79 = .ok (.aload_n 0, 1) := by decide +kernel
theorem dM_join_80 : decode b_M_join 80 = .ok (.iload_n 2, 1) := by decide +kernel
theorem dM_join_81 : decode b_M_join 81 = .ok (.bipush 70, 2) := by decide +kernel
theorem dM_join_83 : decode b_M_join 83 = .ok (.iload_n 1, 1) := by decide +kernel
theorem dM_join_84 : decode b_M_join 84 = .ok (.iadd, 1) := by decide +kernel
theorem dM_join_85 : decode b_M_join 85 = .ok (.iconst 0, 1) := by decide +kernel
theorem dM_join_86 : decode b_M_join 86 = .ok (.invokevirtual 96, 3) := by decide +kernel
theorem dM_join_89 : decode b_M_join 89 = .ok (.iconst 1, 1) := by decide +kernel
theorem dM_join_90 : decode b_M_join 90 = .ok (.ireturn, 1) := by decide +kernel
theorem dM_exit_0 : decode b_M_exit 0 = .ok (.aload_n 0, 1) := by decide +kernel
theorem dM_exit_1 : decode b_M_exit 1 = .ok (.invokevirtual 104, 3) := by decide +kernel
theorem dM_exit_4 : decode b_M_exit 4 = .ok (.istore_n 2, 1) := by decide +kernel
theorem dM_exit_5 : decode b_M_exit 5 = .ok (.iload_n 2, 1) := by decide +kernel
theorem dM_exit_6 : decode b_M_exit 6 = .ok (.ifCond .ge 5, 3) := by decide +kernel
theorem dM_exit_9 : decode b_M_exit 9 = .ok (.iconst (-1), 1) := by decide +kernel
theorem dM_exit_10 : decode b_M_exit 10 = .ok (.ireturn, 1) := by decide +kernel
theorem dM_exit_11 : decode b_M_exit 11 = .ok (.iconst 0, 1) := by decide +kernel
theorem dM_exit_12 : decode b_M_exit 12 = .ok (.istore_n 3, 1) := by decide +kernel
theorem dM_exit_13 : decode b_M_exit 13 = .ok (.iload_n 3, 1) := by decide +kernel
theorem dM_exit_14 : decode b_M_exit 14 = .ok (.iconst 4, 1) := by decide +kernel
theorem dM_exit_15 : decode b_M_exit 15 = .ok (.if_icmp .ge 21, 3) := by decide +kernel
theorem dM_exit_18 : decode b_M_exit 18 = .ok (.aload_n 0, 1) := by decide +kernel
theorem dM_exit_19 : decode b_M_exit 19 = .ok (.getfield 57, 3) := by decide +kernel
theorem dM_exit_22 : decode b_M_exit 22 = .ok (.iload_n 3, 1) := by decide +kernel
theorem dM_exit_23 : decode b_M_exit 23 = .ok (.iaload, 1) := by decide +kernel
theorem dM_exit_24 : decode b_M_exit 24 = .ok (.iload_n 2, 1) := by decide +kernel
theorem dM_exit_25 : decode b_M_exit 25 = .ok (.if_icmp .ne 5, 3) := by decide +kernel
theorem dM_exit_28 : decode b_M_exit 28 = .ok (.iconst (-1), 1) := by decide +kernel
theorem dM_exit_29 : decode b_M_exit 29 = .ok (.ireturn, 1) := by decide +kernel
theorem dM_exit_30 : decode b_M_exit 30 = .ok (.iinc 3 1, 3) := by decide +kernel
theorem dM_exit_33 : decode b_M_exit 33 = .ok (.goto (-20), 3) := by decide +kernel
theorem dM_exit_36 : decode b_M_exit 36 = .ok (.aload_n 0, 1) := by decide +kernel
theorem dM_exit_37 : decode b_M_exit 37 = .ok (.getfield 38, 3) := by decide +kernel
theorem dM_exit_40 : decode b_M_exit 40 = .ok (.iload_n 2, 1) := by decide +kernel
theorem dM_exit_41 : decode b_M_exit 41 = .ok (.iload_n 1, 1) := by decide +kernel
theorem dM_exit_42 : decode b_M_exit 42 = .ok (.iastore, 1) := by decide +kernel
theorem dM_exit_43 : decode b_M_exit 43 = .ok (.aload_n 0, 1) := by decide +kernel
theorem dM_exit_44 : decode b_M_exit 44 = .ok (.getfield 16, 3) := by decide +kernel
theorem dM_exit_47 : decode b_M_exit 47 = .ok (.iload_n 2, 1) := by decide +kernel
theorem dM_exit_48 : decode b_M_exit 48 = .ok (.iconst 3, 1) := by decide +kernel
theorem dM_exit_49 : decode b_M_exit 49 = .ok (.iastore, 1) := by decide +kernel
theorem dM_exit_50 : decode b_M_exit 50 = .ok (.aload_n 0, 1) := by decide +kernel
theorem dM_exit_51 : decode b_M_exit 51 = .ok (.bipush 70, 2) := by decide +kernel
theorem dM_exit_53 : decode b_M_exit 53 = .ok (.iload_n 2, 1) := by decide +kernel
theorem dM_exit_54 : decode b_M_exit 54 = .ok (.iadd, 1) := by decide +kernel
theorem dM_exit_55 : decode b_M_exit 55 = .ok (.invokevirtual 88, 3) := by decide +kernel
theorem dM_exit_58 : decode b_M_exit 58 = .ok (.istore_n 3, 1) := by decide +kernel
theorem dM_exit_59 : decode b_M_exit 59 = .ok (.iload_n 3, 1) := by decide +kernel
theorem dM_exit_60 : decode b_M_exit 60 = .ok (.ifCond .lt 22, 3) := by decide +kernel
theorem dM_exit_63 : decode b_M_exit 63 = .ok (.aload_n 0, 1) := by decide +kernel
theorem dM_exit_64 : decode b_M_exit 64 = .ok (.getfield 16, 3) := by decide +kernel
theorem dM_exit_67 : decode b_M_exit 67 = .ok (.iload_n 2, 1) := by decide +kernel
theorem dM_exit_68 : decode b_M_exit 68 = .ok (.iconst 0, 1) := by decide +kernel
theorem dM_exit_69 : decode b_M_exit 69 = .ok (.iastore, 1) := by decide +kernel
theorem dM_exit_70 : decode b_M_exit 70 = .ok (.aload_n 0, 1) := by decide +kernel
theorem dM_exit_71 : decode b_M_exit 71 = .ok (.getfield 38, 3) := by decide +kernel
theorem dM_exit_74 : decode b_M_exit 74 = .ok (.iload_n 3, 1) := by decide +kernel
theorem dM_exit_75 : decode b_M_exit 75 = .ok (.iload_n 1, 1) := by decide +kernel
theorem dM_exit_76 : decode b_M_exit 76 = .ok (.iastore, 1) := by decide +kernel
theorem dM_exit_77 : decode b_M_exit 77 = .ok (.aload_n 0, 1) := by decide +kernel
theorem dM_exit_78 : decode b_M_exit 78 = .ok (.iload_n 3, 1) := by decide +kernel
theorem dM_exit_79 : decode b_M_exit 79 = .ok (.invokevirtual 92, 3) := by decide +kernel
theorem dM_exit_82 : decode b_M_exit 82 = .ok (.iconst 0, 1) := by decide +kernel
theorem dM_exit_83 : decode b_M_exit 83 = .ok (.ireturn, 1) := by decide +kernel
theorem dM_deadlineComes_0 : decode b_M_deadlineComes 0 = .ok (.aload_n 0, 1) := by decide +kernel
theorem dM_deadlineComes_1 : decode b_M_deadlineComes 1 = .ok (.getfield 29, 3) := by decide +kernel
theorem dM_deadlineComes_4 : decode b_M_deadlineComes 4 = .ok (.iload_n 1, 1) := by decide +kernel
theorem dM_deadlineComes_5 : decode b_M_deadlineComes 5 = .ok (.iaload, 1) := by decide +kernel
theorem dM_deadlineComes_6 : decode b_M_deadlineComes 6 = .ok (.bipush 20, 2) := by decide +kernel
theorem dM_deadlineComes_8 : decode b_M_deadlineComes 8 = .ok (.if_icmp .eq 14, 3) := by decide +kernel
theorem dM_deadlineComes_11 : decode b_M_deadlineComes 11 = .ok (.aload_n 0, 1) := by decide +kernel
theorem dM_deadlineComes_12 : decode b_M_deadlineComes 12 = .ok (.getfield 29, 3) := by decide +kernel
theorem dM_deadlineComes_15 : decode b_M_deadlineComes 15 = .ok (.iload_n 1, 1) := by decide +kernel
theorem dM_deadlineComes_16 : decode b_M_deadlineComes 16 = .ok (.iaload, 1) := by decide +kernel
theorem dM_deadlineComes_17 : decode b_M_deadlineComes 17 = .ok (.bipush 21, 2) := by decide +kernel
theorem dM_deadlineComes_19 : decode b_M_deadlineComes 19 = .ok (.if_icmp .ne 12, 3) := by decide +kernel
theorem dM_deadlineComes_22 : decode b_M_deadlineComes 22 = .ok (.aload_n 0, 1) := by decide +kernel
theorem dM_deadlineComes_23 : decode b_M_deadlineComes 23 = .ok (.iload_n 1, 1) := by decide +kernel
theorem dM_deadlineComes_24 : decode b_M_deadlineComes 24 = .ok (.iconst 2, 1) := by decide +kernel
theorem dM_deadlineComes_25 : decode b_M_deadlineComes 25 = .ok (.invokevirtual 110, 3) := by decide +kernel
theorem dM_deadlineComes_28 : decode b_M_deadlineComes 28 = .ok (.goto 30, 3) := by decide +kernel
theorem dM_deadlineComes_31 : decode b_M_deadlineComes 31 = .ok (.aload_n 0, 1) := by decide +kernel
theorem dM_deadlineComes_32 : decode b_M_deadlineComes 32 = .ok (.getfield 38, 3) := by decide +kernel
theorem dM_deadlineComes_35 : decode b_M_deadlineComes 35 = .ok (.iload_n 1, 1) := by decide +kernel
theorem dM_deadlineComes_36 : decode b_M_deadlineComes 36 = .ok (.aload_n 0, 1) := by decide +kernel
theorem dM_deadlineComes_37 : decode b_M_deadlineComes 37 = .ok (.getfield 29, 3) := by decide +kernel
theorem dM_deadlineComes_40 : decode b_M_deadlineComes 40 = .ok (.iload_n 1, 1) := by decide +kernel
theorem dM_deadlineComes_41 : decode b_M_deadlineComes 41 = .ok (.iaload, 1) := by decide +kernel
theorem dM_deadlineComes_42 : decode b_M_deadlineComes 42 = .ok (.bipush 60, 2) := by decide +kernel
theorem dM_deadlineComes_44 : decode b_M_deadlineComes 44 = .ok (.if_icmp .ne 7, 3) := by decide +kernel
theorem dM_deadlineComes_47 : decode b_M_deadlineComes 47 = .ok (.iconst 0, 1) := by decide +kernel
theorem dM_deadlineComes_48 : decode b_M_deadlineComes 48 = .ok (.goto 4, 3) := by decide +kernel
theorem dM_deadlineComes_51 : decode b_M_deadlineComes 51 = .ok (.iconst 2, 1) := by decide +kernel
theorem dM_deadlineComes_52 : decode b_M_deadlineComes 52 = .ok (.iastore, 1) := by decide +kernel
theorem dM_deadlineComes_53 : decode b_M_deadlineComes 53 = .ok (.aload_n 0, 1) := by decide +kernel
theorem dM_deadlineComes_54 : decode b_M_deadlineComes 54 = .ok (.iload_n 1, 1) := by decide +kernel
theorem dM_deadlineComes_55 : decode b_M_deadlineComes 55 = .ok (.invokevirtual 92, 3) := by decide +kernel
theorem dM_deadlineComes_58 : decode b_M_deadlineComes 58 = .ok (.return_, 1) := by decide +kernel
theorem dM_tick_0 : decode b_M_tick 0 = .ok (.iload_n 1, 1) := by decide +kernel
theorem dM_tick_1 : decode b_M_tick 1 = .ok (.iconst 1, 1) := by decide +kernel
theorem dM_tick_2 : decode b_M_tick 2 = .ok (.if_icmp .lt 9, 3) := by decide +kernel
theorem dM_tick_5 : decode b_M_tick 5 = .ok (.iload_n 1, 1) := by decide +kernel
theorem dM_tick_6 : decode b_M_tick 6 = .ok (.bipush 100, 2) := by decide +kernel
theorem dM_tick_8 : decode b_M_tick 8 = .ok (.if_icmp .le 5, 3) := by decide +kernel
theorem dM_tick_11 : decode b_M_tick 11 = .ok (.iconst (-1), 1) := by decide +kernel
theorem dM_tick_12 : decode b_M_tick 12 = .ok (.ireturn, 1) := by decide +kernel
theorem dM_tick_13 : decode b_M_tick 13 = .ok (.iconst 0, 1) := by decide +kernel
theorem dM_tick_14 : decode b_M_tick 14 = .ok (.istore_n 2, 1) := by decide +kernel
theorem dM_tick_15 : decode b_M_tick 15 = .ok (.iload_n 2, 1) := by decide +kernel
theorem dM_tick_16 : decode b_M_tick 16 = .ok (.iload_n 1, 1) := by decide +kernel
theorem dM_tick_17 : decode b_M_tick 17 = .ok (.if_icmp .ge 116, 3) := by decide +kernel
theorem dM_tick_20 : decode b_M_tick 20 = .ok (.aload_n 0, 1) := by decide +kernel
theorem dM_tick_21 : decode b_M_tick 21 = .ok (.invokevirtual 104, 3) := by decide +kernel
theorem dM_tick_24 : decode b_M_tick 24 = .ok (.istore_n 3, 1) := by decide +kernel
theorem dM_tick_25 : decode b_M_tick 25 = .ok (.aload_n 0, 1) := by decide +kernel
theorem dM_tick_26 : decode b_M_tick 26 = .ok (.dup, 1) := by decide +kernel
theorem dM_tick_27 : decode b_M_tick 27 = .ok (.getfield 7, 3) := by decide +kernel
theorem dM_tick_30 : decode b_M_tick 30 = .ok (.iconst 1, 1) := by decide +kernel
theorem dM_tick_31 : decode b_M_tick 31 = .ok (.iadd, 1) := by decide +kernel
theorem dM_tick_32 : decode b_M_tick 32 = .ok (.putfield 7, 3) := by decide +kernel
theorem dM_tick_35 : decode b_M_tick 35 = .ok (.iload_n 3, 1) := by decide +kernel
theorem dM_tick_36 : decode b_M_tick 36 = .ok (.ifCond .lt 13, 3) := by decide +kernel
theorem dM_tick_39 : decode b_M_tick 39 = .ok (.aload_n 0, 1) := by decide +kernel
theorem dM_tick_40 : decode b_M_tick 40 = .ok (.getfield 26, 3) := by decide +kernel
theorem dM_tick_43 : decode b_M_tick 43 = .ok (.iload_n 3, 1) := by decide +kernel
theorem dM_tick_44 : decode b_M_tick 44 = .ok (.dup2, 1) := by decide +kernel
theorem dM_tick_45 : decode b_M_tick 45 = .ok (.iaload, 1) := by decide +kernel
theorem dM_tick_46 : decode b_M_tick 46 = .ok (.iconst 1, 1) := by decide +kernel
theorem dM_tick_47 : decode b_M_tick 47 = .ok (.iadd, 1) := by decide +kernel
theorem dM_tick_48 : decode b_M_tick 48 = .ok (.iastore, 1) := by decide +kernel
theorem dM_tick_49 : decode b_M_tick 49 = .ok (.iload_n 3, 1) := by decide +kernel
theorem dM_tick_50 : decode b_M_tick 50 = .ok (.ifCond .lt 30, 3) := by decide +kernel
theorem dM_tick_53 : decode b_M_tick 53 = .ok (.aload_n 0, 1) := by decide +kernel
theorem dM_tick_54 : decode b_M_tick 54 = .ok (.getfield 50, 3) := by decide +kernel
theorem dM_tick_57 : decode b_M_tick 57 = .ok (.iload_n 3, 1) := by decide +kernel
theorem dM_tick_58 : decode b_M_tick 58 = .ok (.baload, 1) := by decide +kernel
theorem dM_tick_59 : decode b_M_tick 59 = .ok (.ifCond .eq 21, 3) := by decide +kernel
theorem dM_tick_62 : decode b_M_tick 62 = .ok (.aload_n 0, 1) := by decide +kernel
theorem dM_tick_63 : decode b_M_tick 63 = .ok (.getfield 26, 3) := by decide +kernel
theorem dM_tick_66 : decode b_M_tick 66 = .ok (.iload_n 3, 1) := by decide +kernel
theorem dM_tick_67 : decode b_M_tick 67 = .ok (.iaload, 1) := by decide +kernel
theorem dM_tick_68 : decode b_M_tick 68 = .ok (.aload_n 0, 1) := by decide +kernel
theorem dM_tick_69 : decode b_M_tick 69 = .ok (.getfield 75, 3) := by decide +kernel
theorem dM_tick_72 : decode b_M_tick 72 = .ok (.if_icmp .ne 8, 3) := by decide +kernel
theorem dM_tick_75 : decode b_M_tick 75 = .ok (.aload_n 0, 1) := by decide +kernel
theorem dM_tick_76 : decode b_M_tick 76 = .ok (.iload_n 3, 1) := by decide +kernel
theorem dM_tick_77 : decode b_M_tick 77 = .ok (.invokevirtual 92, 3) := by decide +kernel
theorem dM_tick_80 : decode b_M_tick 80 = .ok (.iconst 0, 1) := by decide +kernel
theorem dM_tick_81 : decode b_M_tick 81 = .ok (.istore 4, 2) := by decide +kernel
theorem dM_tick_83 : decode b_M_tick 83 = .ok (.iload 4, 2) := by decide +kernel
theorem dM_tick_85 : decode b_M_tick 85 = .ok (.bipush 8, 2) := by decide +kernel
theorem dM_tick_87 : decode b_M_tick 87 = .ok (.if_icmp .ge 40, 3) := by decide +kernel
theorem dM_tick_90 : decode b_M_tick 90 = .ok (.aload_n 0, 1) := by decide +kernel
theorem dM_tick_91 : decode b_M_tick 91 = .ok (.getfield 16, 3) := by decide +kernel
theorem dM_tick_94 : decode b_M_tick 94 = .ok (.iload 4, 2) := by decide +kernel
theorem dM_tick_96 : decode b_M_tick 96 = .ok (.iaload, 1) := by decide +kernel
theorem dM_tick_97 : decode b_M_tick 97 = .ok (.iconst 2, 1) := by decide +kernel
theorem dM_tick_98 : decode b_M_tick 98 = .ok (.if_icmp .ne 23, 3) := by decide +kernel
theorem dM_tick_101 : decode b_M_tick 101 = .ok (.aload_n 0, 1) := by decide +kernel
theorem dM_tick_102 : decode b_M_tick 102 = .ok (.getfield 35, 3) := by decide +kernel
theorem dM_tick_105 : decode b_M_tick 105 = .ok (.iload 4, 2) := by decide +kernel
theorem dM_tick_107 : decode b_M_tick 107 = .ok (.iaload, 1) := by decide +kernel
theorem dM_tick_108 : decode b_M_tick 108 = .ok (.aload_n 0, 1) := by decide +kernel
theorem dM_tick_109 : decode b_M_tick 109 = .ok (.getfield 7, 3) := by decide +kernel
theorem dM_tick_112 : decode b_M_tick 112 = .ok (.if_icmp .ne 9, 3) := by decide +kernel
theorem dM_tick_115 : decode b_M_tick 115 = .ok (.aload_n 0, 1) := by decide +kernel
theorem dM_tick_116 : decode b_M_tick 116 = .ok (.iload 4, 2) := by decide +kernel
theorem dM_tick_118 : decode b_M_tick 118 = .ok (.invokevirtual 117, 3) := by decide +kernel
theorem dM_tick_121 : decode b_M_tick 121 = .ok (.iinc 4 1, 3) := by decide +kernel
theorem dM_tick_124 : decode b_M_tick 124 = .ok (.goto (-41), 3) := by decide +kernel
theorem dM_tick_127 : decode b_M_tick 127 = .ok (.iinc 2 1, 3) := by decide +kernel
theorem dM_tick_130 : decode b_M_tick 130 = .ok (.goto (-115), 3) := by decide +kernel
theorem dM_tick_133 : decode b_M_tick 133 = .ok (.aload_n 0, 1) := by decide +kernel
theorem dM_tick_134 : decode b_M_tick 134 = .ok (.invokevirtual 104, 3) := by decide +kernel
theorem dM_tick_137 : decode b_M_tick 137 = .ok (.ireturn, 1) := by decide +kernel
theorem dM_tell_0 : decode b_M_tell 0 = .ok (.aload_n 0, 1) := by decide +kernel
theorem dM_tell_1 : decode b_M_tell 1 = .ok (.iload_n 1, 1) := by decide +kernel
theorem dM_tell_2 : decode b_M_tell 2 = .ok (.bipush 8, 2) := by decide +kernel
theorem dM_tell_4 : decode b_M_tell 4 = .ok (.invokevirtual 100, 3) := by decide +kernel
theorem dM_tell_7 : decode b_M_tell 7 = .ok (.ifCond .ne 25, 3) := by decide +kernel
theorem dM_tell_10 : decode b_M_tell 10 = .ok (.iload_n 2, 1) := by decide +kernel
theorem dM_tell_11 : decode b_M_tell 11 = .ok (.ifCond .lt 21, 3) := by decide +kernel
theorem dM_tell_14 : decode b_M_tell 14 = .ok (.iload_n 2, 1) := by decide +kernel
theorem dM_tell_15 : decode b_M_tell 15 = .ok (.iconst 5, 1) := by decide +kernel
theorem dM_tell_16 : decode b_M_tell 16 = .ok (.if_icmp .gt 16, 3) := by decide +kernel
theorem dM_tell_19 : decode b_M_tell 19 = .ok (.aload_n 0, 1) := by decide +kernel
theorem dM_tell_20 : decode b_M_tell 20 = .ok (.getfield 16, 3) := by decide +kernel
theorem dM_tell_23 : decode b_M_tell 23 = .ok (.iload_n 1, 1) := by decide +kernel
theorem dM_tell_24 : decode b_M_tell 24 = .ok (.iaload, 1) := by decide +kernel
theorem dM_tell_25 : decode b_M_tell 25 = .ok (.ifCond .ne 11, 3) := by decide +kernel
theorem dM_tell_28 : decode b_M_tell 28 = .ok (.iload_n 2, 1) := by decide +kernel
theorem dM_tell_29 : decode b_M_tell 29 = .ok (.ifCond .le 7, 3) := by decide +kernel
theorem dM_tell_32 : decode b_M_tell 32 = .ok (.ldc2_w 120, 3) := by decide +kernel
theorem dM_tell_35 : decode b_M_tell 35 = .ok (.lreturn, 1) := by decide +kernel
theorem dM_tell_36 : decode b_M_tell 36 = .ok (.aload_n 0, 1) := by decide +kernel
theorem dM_tell_37 : decode b_M_tell 37 = .ok (.invokevirtual 85, 3) := by decide +kernel
theorem dM_tell_40 : decode b_M_tell 40 = .ok (.iload_n 2, 1) := by decide +kernel
theorem dM_tell_41 : decode b_M_tell 41 = .ok (.ifCond .ne 11, 3) := by decide +kernel
theorem dM_tell_44 : decode b_M_tell 44 = .ok (.aload_n 0, 1) := by decide +kernel
theorem dM_tell_45 : decode b_M_tell 45 = .ok (.getfield 16, 3) := by decide +kernel
theorem dM_tell_48 : decode b_M_tell 48 = .ok (.iload_n 1, 1) := by decide +kernel
theorem dM_tell_49 : decode b_M_tell 49 = .ok (.iaload, 1) := by decide +kernel
theorem dM_tell_50 : decode b_M_tell 50 = .ok (.i2l, 1) := by decide +kernel
theorem dM_tell_51 : decode b_M_tell 51 = .ok (.lreturn, 1) := by decide +kernel
theorem dM_tell_52 : decode b_M_tell 52 = .ok (.iload_n 2, 1) := by decide +kernel
theorem dM_tell_53 : decode b_M_tell 53 = .ok (.iconst 1, 1) := by decide +kernel
theorem dM_tell_54 : decode b_M_tell 54 = .ok (.if_icmp .ne 11, 3) := by decide +kernel
theorem dM_tell_57 : decode b_M_tell 57 = .ok (.aload_n 0, 1) := by decide +kernel
theorem dM_tell_58 : decode b_M_tell 58 = .ok (.getfield 20, 3) := by decide +kernel
theorem dM_tell_61 : decode b_M_tell 61 = .ok (.iload_n 1, 1) := by decide +kernel
theorem dM_tell_62 : decode b_M_tell 62 = .ok (.iaload, 1) := by decide +kernel
theorem dM_tell_63 : decode b_M_tell 63 = .ok (.i2l, 1) := by decide +kernel
theorem dM_tell_64 : decode b_M_tell 64 = .ok (.lreturn, 1) := by decide +kernel
theorem dM_tell_65 : decode b_M_tell 65 = .ok (.iload_n 2, 1) := by decide +kernel
theorem dM_tell_66 : decode b_M_tell 66 = .ok (.iconst 2, 1) := by decide +kernel
theorem dM_tell_67 : decode b_M_tell 67 = .ok (.if_icmp .ne 11, 3) := by decide +kernel
theorem dM_tell_70 : decode b_M_tell 70 = .ok (.aload_n 0, 1) := by decide +kernel
theorem dM_tell_71 : decode b_M_tell 71 = .ok (.getfield 72, 3) := by decide +kernel
theorem dM_tell_74 : decode b_M_tell 74 = .ok (.iload_n 1, 1) := by decide +kernel
theorem dM_tell_75 : decode b_M_tell 75 = .ok (.iaload, 1) := by decide +kernel
theorem dM_tell_76 : decode b_M_tell 76 = .ok (.i2l, 1) := by decide +kernel
theorem dM_tell_77 : decode b_M_tell 77 = .ok (.lreturn, 1) := by decide +kernel
theorem dM_tell_78 : decode b_M_tell 78 = .ok (.iload_n 2, 1) := by decide +kernel
theorem dM_tell_79 : decode b_M_tell 79 = .ok (.iconst 3, 1) := by decide +kernel
theorem dM_tell_80 : decode b_M_tell 80 = .ok (.if_icmp .ne 11, 3) := by decide +kernel
theorem dM_tell_83 : decode b_M_tell 83 = .ok (.aload_n 0, 1) := by decide +kernel
theorem dM_tell_84 : decode b_M_tell 84 = .ok (.getfield 38, 3) := by decide +kernel
theorem dM_tell_87 : decode b_M_tell 87 = .ok (.iload_n 1, 1) := by decide +kernel
theorem dM_tell_88 : decode b_M_tell 88 = .ok (.iaload, 1) := by decide +kernel
theorem dM_tell_89 : decode b_M_tell 89 = .ok (.i2l, 1) := by decide +kernel
theorem dM_tell_90 : decode b_M_tell 90 = .ok (.lreturn, 1) := by decide +kernel
theorem dM_tell_91 : decode b_M_tell 91 = .ok (.iload_n 2, 1) := by decide +kernel
theorem dM_tell_92 : decode b_M_tell 92 = .ok (.iconst 4, 1) := by decide +kernel
theorem dM_tell_93 : decode b_M_tell 93 = .ok (.if_icmp .ne 25, 3) := by decide +kernel
theorem dM_tell_96 : decode b_M_tell 96 = .ok (.aload_n 0, 1) := by decide +kernel
theorem dM_tell_97 : decode b_M_tell 97 = .ok (.getfield 16, 3) := by decide +kernel
theorem dM_tell_100 : decode b_M_tell 100 = .ok (.iload_n 1, 1) := by decide +kernel
theorem dM_tell_101 : decode b_M_tell 101 = .ok (.iaload, 1) := by decide +kernel
theorem dM_tell_102 : decode b_M_tell 102 = .ok (.iconst 2, 1) := by decide +kernel
theorem dM_tell_103 : decode b_M_tell 103 = .ok (.if_icmp .ne 13, 3) := by decide +kernel
theorem dM_tell_106 : decode b_M_tell 106 = .ok (.aload_n 0, 1) := by decide +kernel
theorem dM_tell_107 : decode b_M_tell 107 = .ok (.getfield 29, 3) := by decide +kernel
theorem dM_tell_110 : decode b_M_tell 110 = .ok (.iload_n 1, 1) := by decide +kernel
theorem dM_tell_111 : decode b_M_tell 111 = .ok (.iaload, 1) := by decide +kernel
theorem dM_tell_112 : decode b_M_tell 112 = .ok (.i2l, 1) := by decide +kernel
theorem dM_tell_113 : decode b_M_tell 113 = .ok (.goto 4, 3) := by decide +kernel
theorem dM_tell_116 : decode b_M_tell 116 = .ok (.lconst 0, 1) := by decide +kernel
theorem dM_tell_117 : decode b_M_tell 117 = .ok (.lreturn, 1) := by decide +kernel
theorem dM_tell_118 : decode b_M_tell 118 = .ok (.aload_n 0, 1) := by decide +kernel
theorem dM_tell_119 : decode b_M_tell 119 = .ok (.getfield 16, 3) := by decide +kernel
theorem dM_tell_122 : decode b_M_tell 122 = .ok (.iload_n 1, 1) := by decide +kernel
theorem dM_tell_123 : decode b_M_tell 123 = .ok (.iaload, 1) := by decide +kernel
theorem dM_tell_124 : decode b_M_tell 124 = .ok (.iconst 2, 1) := by decide +kernel
theorem dM_tell_125 : decode b_M_tell 125 = .ok (.if_icmp .ne 22, 3) := by decide +kernel
theorem dM_tell_128 : decode b_M_tell 128 = .ok (.aload_n 0, 1) := by decide +kernel
theorem dM_tell_129 : decode b_M_tell 129 = .ok (.getfield 35, 3) := by decide +kernel
theorem dM_tell_132 : decode b_M_tell 132 = .ok (.iload_n 1, 1) := by decide +kernel
theorem dM_tell_133 : decode b_M_tell 133 = .ok (.iaload, 1) := by decide +kernel
theorem dM_tell_134 : decode b_M_tell 134 = .ok (.ifCond .le 13, 3) := by decide +kernel
theorem dM_tell_137 : decode b_M_tell 137 = .ok (.aload_n 0, 1) := by decide +kernel
theorem dM_tell_138 : decode b_M_tell 138 = .ok (.getfield 35, 3) := by decide +kernel
theorem dM_tell_141 : decode b_M_tell 141 = .ok (.iload_n 1, 1) := by decide +kernel
theorem dM_tell_142 : decode b_M_tell 142 = .ok (.iaload, 1) := by decide +kernel
theorem dM_tell_143 : decode b_M_tell 143 = .ok (.i2l, 1) := by decide +kernel
theorem dM_tell_144 : decode b_M_tell 144 = .ok (.goto 6, 3) := by decide +kernel
theorem dM_tell_147 : decode b_M_tell 147 = .ok (.ldc2_w 120, 3) := by decide +kernel
theorem dM_tell_150 : decode b_M_tell 150 = .ok (.lreturn, 1) := by decide +kernel
theorem dM_owner_0 : decode b_M_owner 0 = .ok (.aload_n 0, 1) := by decide +kernel
theorem dM_owner_1 : decode b_M_owner 1 = .ok (.iload_n 1, 1) := by decide +kernel
theorem dM_owner_2 : decode b_M_owner 2 = .ok (.iconst 4, 1) := by decide +kernel
theorem dM_owner_3 : decode b_M_owner 3 = .ok (.invokevirtual 100, 3) := by decide +kernel
theorem dM_owner_6 : decode b_M_owner 6 = .ok (.ifCond .eq 7, 3) := by decide +kernel
theorem dM_owner_9 : decode b_M_owner 9 = .ok (.iconst (-1), 1) := by decide +kernel
theorem dM_owner_10 : decode b_M_owner 10 = .ok (.goto 9, 3) := by decide +kernel
theorem dM_owner_13 : decode b_M_owner 13 = .ok (.aload_n 0, 1) := by decide +kernel
theorem dM_owner_14 : decode b_M_owner 14 = .ok (.getfield 57, 3) := by decide +kernel
theorem dM_owner_17 : decode b_M_owner 17 = .ok (.iload_n 1, 1) := by decide +kernel
theorem dM_owner_18 : decode b_M_owner 18 = .ok (.iaload, 1) := by decide +kernel
theorem dM_owner_19 : decode b_M_owner 19 = .ok (.ireturn, 1) := by decide +kernel
theorem dM_count_0 : decode b_M_count 0 = .ok (.iconst 0, 1) := by decide +kernel
theorem dM_count_1 : decode b_M_count 1 = .ok (.istore_n 2, 1) := by decide +kernel
theorem dM_count_2 : decode b_M_count 2 = .ok (.iconst 0, 1) := by decide +kernel
theorem dM_count_3 : decode b_M_count 3 = .ok (.istore_n 3, 1) := by decide +kernel
theorem dM_count_4 : decode b_M_count 4 = .ok (.iload_n 3, 1) := by decide +kernel
theorem dM_count_5 : decode b_M_count 5 = .ok (.bipush 8, 2) := by decide +kernel
theorem dM_count_7 : decode b_M_count 7 = .ok (.if_icmp .ge 22, 3) := by decide +kernel
theorem dM_count_10 : decode b_M_count 10 = .ok (.aload_n 0, 1) := by decide +kernel
theorem dM_count_11 : decode b_M_count 11 = .ok (.getfield 16, 3) := by decide +kernel
theorem dM_count_14 : decode b_M_count 14 = .ok (.iload_n 3, 1) := by decide +kernel
theorem dM_count_15 : decode b_M_count 15 = .ok (.iaload, 1) := by decide +kernel
theorem dM_count_16 : decode b_M_count 16 = .ok (.iconst 1, 1) := by decide +kernel
theorem dM_count_17 : decode b_M_count 17 = .ok (.if_icmp .ne 6, 3) := by decide +kernel
theorem dM_count_20 : decode b_M_count 20 = .ok (.iinc 2 1, 3) := by decide +kernel
theorem dM_count_23 : decode b_M_count 23 = .ok (.iinc 3 1, 3) := by decide +kernel
theorem dM_count_26 : decode b_M_count 26 = .ok (.goto (-22), 3) := by decide +kernel
theorem dM_count_29 : decode b_M_count 29 = .ok (.iload_n 1, 1) := by decide +kernel
theorem dM_count_30 : decode b_M_count 30 = .ok (.ifCond .eq 8, 3) := by decide +kernel
theorem dM_count_33 : decode b_M_count 33 = .ok (.iload_n 1, 1) := by decide +kernel
theorem dM_count_34 : decode b_M_count 34 = .ok (.iconst 1, 1) := by decide +kernel
theorem dM_count_35 : decode b_M_count 35 = .ok (.if_icmp .ne 12, 3) := by decide +kernel
theorem dM_count_38 : decode b_M_count 38 = .ok (.aload_n 0, 1) := by decide +kernel
theorem dM_count_39 : decode b_M_count 39 = .ok (.getfield 60, 3) := by decide +kernel
theorem dM_count_42 : decode b_M_count 42 = .ok (.iload_n 1, 1) := by decide +kernel
theorem dM_count_43 : decode b_M_count 43 = .ok (.iaload, 1) := by decide +kernel
theorem dM_count_44 : decode b_M_count 44 = .ok (.goto 46, 3) := by decide +kernel
theorem dM_count_47 : decode b_M_count 47 = .ok (.iload_n 1, 1) := by decide +kernel
theorem dM_count_48 : decode b_M_count 48 = .ok (.iconst 2, 1) := by decide +kernel
theorem dM_count_49 : decode b_M_count 49 = .ok (.if_icmp .eq 8, 3) := by decide +kernel
theorem dM_count_52 : decode b_M_count 52 = .ok (.iload_n 1, 1) := by decide +kernel
theorem dM_count_53 : decode b_M_count 53 = .ok (.iconst 3, 1) := by decide +kernel
theorem dM_count_54 : decode b_M_count 54 = .ok (.if_icmp .ne 14, 3) := by decide +kernel
theorem dM_count_57 : decode b_M_count 57 = .ok (.aload_n 0, 1) := by decide +kernel
theorem dM_count_58 : decode b_M_count 58 = .ok (.getfield 63, 3) := by decide +kernel
theorem dM_count_61 : decode b_M_count 61 = .ok (.iload_n 1, 1) := by decide +kernel
theorem dM_count_62 : decode b_M_count 62 = .ok (.iconst 2, 1) := by decide +kernel
theorem dM_count_63 : decode b_M_count 63 = .ok (.isub, 1) := by decide +kernel
theorem dM_count_64 : decode b_M_count 64 = .ok (.iaload, 1) := by decide +kernel
theorem dM_count_65 : decode b_M_count 65 = .ok (.goto 25, 3) := by decide +kernel
theorem dM_count_68 : decode b_M_count 68 = .ok (.iload_n 1, 1) := by decide +kernel
theorem dM_count_69 : decode b_M_count 69 = .ok (.iconst 4, 1) := by decide +kernel
theorem dM_count_70 : decode b_M_count 70 = .ok (.if_icmp .ne 10, 3) := by decide +kernel
theorem dM_count_73 : decode b_M_count 73 = .ok (.aload_n 0, 1) := by decide +kernel
theorem dM_count_74 : decode b_M_count 74 = .ok (.getfield 7, 3) := by decide +kernel
theorem dM_count_77 : decode b_M_count 77 = .ok (.goto 13, 3) := by decide +kernel
theorem dM_count_80 : decode b_M_count 80 = .ok (.iload_n 1, 1) := by decide +kernel
theorem dM_count_81 : decode b_M_count 81 = .ok (.iconst 5, 1) := by decide +kernel
theorem dM_count_82 : decode b_M_count 82 = .ok (.if_icmp .ne 7, 3) := by decide +kernel
theorem dM_count_85 : decode b_M_count 85 = .ok (.iload_n 2, 1) := by decide +kernel
theorem dM_count_86 : decode b_M_count 86 = .ok (.goto 4, 3) := by decide +kernel
theorem dM_count_89 : decode b_M_count 89 = .ok (.iconst (-1), 1) := by decide +kernel
theorem dM_count_90 : decode b_M_count 90 = .ok (.ireturn, 1) := by decide +kernel
theorem dM_init_0 : decode b_M_init 0 = .ok (.aload_n 0, 1) := by decide +kernel
theorem dM_init_1 : decode b_M_init 1 = .ok (.invokespecial 1, 3) := by decide +kernel
theorem dM_init_4 : decode b_M_init 4 = .ok (.aload_n 0, 1) := by decide +kernel
theorem dM_init_5 : decode b_M_init 5 = .ok (.iconst 0, 1) := by decide +kernel
theorem dM_init_6 : decode b_M_init 6 = .ok (.putfield 7, 3) := by decide +kernel
theorem dM_init_9 : decode b_M_init 9 = .ok (.aload_n 0, 1) := by decide +kernel
theorem dM_init_10 : decode b_M_init 10 = .ok (.iconst 0, 1) := by decide +kernel
theorem dM_init_11 : decode b_M_init 11 = .ok (.putfield 13, 3) := by decide +kernel
theorem dM_init_14 : decode b_M_init 14 = .ok (.aload_n 0, 1) := by decide +kernel
theorem dM_init_15 : decode b_M_init 15 = .ok (.bipush 8, 2) := by decide +kernel
theorem dM_init_17 : decode b_M_init 17 = .ok (.newarray .int, 2) := by decide +kernel
theorem dM_init_19 : decode b_M_init 19 = .ok (.putfield 16, 3) := by decide +kernel
theorem dM_init_22 : decode b_M_init 22 = .ok (.aload_n 0, 1) := by decide +kernel
theorem dM_init_23 : decode b_M_init 23 = .ok (.bipush 8, 2) := by decide +kernel
theorem dM_init_25 : decode b_M_init 25 = .ok (.newarray .int, 2) := by decide +kernel
theorem dM_init_27 : decode b_M_init 27 = .ok (.putfield 20, 3) := by decide +kernel
theorem dM_init_30 : decode b_M_init 30 = .ok (.aload_n 0, 1) := by decide +kernel
theorem dM_init_31 : decode b_M_init 31 = .ok (.bipush 8, 2) := by decide +kernel
theorem dM_init_33 : decode b_M_init 33 = .ok (.newarray .int, 2) := by decide +kernel
theorem dM_init_35 : decode b_M_init 35 = .ok (.putfield 23, 3) := by decide +kernel
theorem dM_init_38 : decode b_M_init 38 = .ok (.aload_n 0, 1) := by decide +kernel
theorem dM_init_39 : decode b_M_init 39 = .ok (.bipush 8, 2) := by decide +kernel
theorem dM_init_41 : decode b_M_init 41 = .ok (.newarray .int, 2) := by decide +kernel
theorem dM_init_43 : decode b_M_init 43 = .ok (.putfield 26, 3) := by decide +kernel
theorem dM_init_46 : decode b_M_init 46 = .ok (.aload_n 0, 1) := by decide +kernel
theorem dM_init_47 : decode b_M_init 47 = .ok (.bipush 8, 2) := by decide +kernel
theorem dM_init_49 : decode b_M_init 49 = .ok (.newarray .int, 2) := by decide +kernel
theorem dM_init_51 : decode b_M_init 51 = .ok (.putfield 29, 3) := by decide +kernel
theorem dM_init_54 : decode b_M_init 54 = .ok (.aload_n 0, 1) := by decide +kernel
theorem dM_init_55 : decode b_M_init 55 = .ok (.bipush 8, 2) := by decide +kernel
theorem dM_init_57 : decode b_M_init 57 = .ok (.newarray .int, 2) := by decide +kernel
theorem dM_init_59 : decode b_M_init 59 = .ok (.putfield 32, 3) := by decide +kernel
theorem dM_init_62 : decode b_M_init 62 = .ok (.aload_n 0, 1) := by decide +kernel
theorem dM_init_63 : decode b_M_init 63 = .ok (.bipush 8, 2) := by decide +kernel
theorem dM_init_65 : decode b_M_init 65 = .ok (.newarray .int, 2) := by decide +kernel
theorem dM_init_67 : decode b_M_init 67 = .ok (.putfield 35, 3) := by decide +kernel
theorem dM_init_70 : decode b_M_init 70 = .ok (.aload_n 0, 1) := by decide +kernel
theorem dM_init_71 : decode b_M_init 71 = .ok (.bipush 8, 2) := by decide +kernel
theorem dM_init_73 : decode b_M_init 73 = .ok (.newarray .int, 2) := by decide +kernel
theorem dM_init_75 : decode b_M_init 75 = .ok (.putfield 38, 3) := by decide +kernel
theorem dM_init_78 : decode b_M_init 78 = .ok (.aload_n 0, 1) := by decide +kernel
theorem dM_init_79 : decode b_M_init 79 = .ok (.bipush 8, 2) := by decide +kernel
theorem dM_init_81 : decode b_M_init 81 = .ok (.newarray .int, 2) := by decide +kernel
theorem dM_init_83 : decode b_M_init 83 = .ok (.putfield 41, 3) := by decide +kernel
theorem dM_init_86 : decode b_M_init 86 = .ok (.aload_n 0, 1) := by decide +kernel
theorem dM_init_87 : decode b_M_init 87 = .ok (.bipush 8, 2) := by decide +kernel
theorem dM_init_89 : decode b_M_init 89 = .ok (.newarray .int, 2) := by decide +kernel
theorem dM_init_91 : decode b_M_init 91 = .ok (.putfield 44, 3) := by decide +kernel
theorem dM_init_94 : decode b_M_init 94 = .ok (.aload_n 0, 1) := by decide +kernel
theorem dM_init_95 : decode b_M_init 95 = .ok (.bipush 8, 2) := by decide +kernel
theorem dM_init_97 : decode b_M_init 97 = .ok (.newarray .int, 2) := by decide +kernel
theorem dM_init_99 : decode b_M_init 99 = .ok (.putfield 47, 3) := by decide +kernel
theorem dM_init_102 : decode b_M_init 102 = .ok (.aload_n 0, 1) := by decide +kernel
theorem dM_init_103 : decode b_M_init 103 = .ok (.bipush 8, 2) := by decide +kernel
theorem dM_init_105 : decode b_M_init 105 = .ok (.newarray .boolean, 2) := by decide +kernel
theorem dM_init_107 : decode b_M_init 107 = .ok (.putfield 50, 3) := by decide +kernel
theorem dM_init_110 : decode b_M_init 110 = .ok (.aload_n 0, 1) := by decide +kernel
theorem dM_init_111 : decode b_M_init 111 = .ok (.bipush 8, 2) := by decide +kernel
theorem dM_init_113 : decode b_M_init 113 = .ok (.newarray .boolean, 2) := by decide +kernel
theorem dM_init_115 : decode b_M_init 115 = .ok (.putfield 54, 3) := by decide +kernel
theorem dM_init_118 : decode b_M_init 118 = .ok (.aload_n 0, 1) := by decide +kernel
theorem dM_init_119 : decode b_M_init 119 = .ok (.iconst 4, 1) := by decide +kernel
theorem dM_init_120 : decode b_M_init 120 = .ok (.newarray .int, 2) := by decide +kernel
theorem dM_init_122 : decode b_M_init 122 = .ok (.putfield 57, 3) := by decide +kernel
theorem dM_init_125 : decode b_M_init 125 = .ok (.aload_n 0, 1) := by decide +kernel
theorem dM_init_126 : decode b_M_init 126 = .ok (.iconst 2, 1) := by decide +kernel
theorem dM_init_127 : decode b_M_init 127 = .ok (.newarray .int, 2) := by decide +kernel
theorem dM_init_129 : decode b_M_init 129 = .ok (.putfield 60, 3) := by decide +kernel
theorem dM_init_132 : decode b_M_init 132 = .ok (.aload_n 0, 1) := by decide +kernel
theorem dM_init_133 : decode b_M_init 133 = .ok (.iconst 2, 1) := by decide +kernel
theorem dM_init_134 : decode b_M_init 134 = .ok (.newarray .int, 2) := by decide +kernel
theorem dM_init_136 : decode b_M_init 136 = .ok (.putfield 63, 3) := by decide +kernel
theorem dM_init_139 : decode b_M_init 139 = .ok (.aload_n 0, 1) := by decide +kernel
theorem dM_init_140 : decode b_M_init 140 = .ok (.bipush 8, 2) := by decide +kernel
theorem dM_init_142 : decode b_M_init 142 = .ok (.newarray .int, 2) := by decide +kernel
theorem dM_init_144 : decode b_M_init 144 = .ok (.putfield 66, 3) := by decide +kernel
theorem dM_init_147 : decode b_M_init 147 = .ok (.aload_n 0, 1) := by decide +kernel
theorem dM_init_148 : decode b_M_init 148 = .ok (.bipush 8, 2) := by decide +kernel
theorem dM_init_150 : decode b_M_init 150 = .ok (.newarray .int, 2) := by decide +kernel
theorem dM_init_152 : decode b_M_init 152 = .ok (.putfield 69, 3) := by decide +kernel
theorem dM_init_155 : decode b_M_init 155 = .ok (.aload_n 0, 1) := by decide +kernel
theorem dM_init_156 : decode b_M_init 156 = .ok (.bipush 8, 2) := by decide +kernel
theorem dM_init_158 : decode b_M_init 158 = .ok (.newarray .int, 2) := by decide +kernel
theorem dM_init_160 : decode b_M_init 160 = .ok (.putfield 72, 3) := by decide +kernel
theorem dM_init_163 : decode b_M_init 163 = .ok (.aload_n 0, 1) := by decide +kernel
theorem dM_init_164 : decode b_M_init 164 = .ok (.iload_n 1, 1) := by decide +kernel
theorem dM_init_165 : decode b_M_init 165 = .ok (.iconst 1, 1) := by decide +kernel
theorem dM_init_166 : decode b_M_init 166 = .ok (.if_icmp .ge 7, 3) := by decide +kernel
theorem dM_init_169 : decode b_M_init 169 = .ok (.iconst 1, 1) := by decide +kernel
theorem dM_init_170 : decode b_M_init 170 = .ok (.goto 15, 3) := by decide +kernel
theorem dM_init_173 : decode b_M_init 173 = .ok (.iload_n 1, 1) := by decide +kernel
theorem dM_init_174 : decode b_M_init 174 = .ok (.bipush 20, 2) := by decide +kernel
theorem dM_init_176 : decode b_M_init 176 = .ok (.if_icmp .le 8, 3) := by decide +kernel
theorem dM_init_179 : decode b_M_init 179 = .ok (.bipush 20, 2) := by decide +kernel
theorem dM_init_181 : decode b_M_init 181 = .ok (.goto 4, 3) := by decide +kernel
theorem dM_init_184 : decode b_M_init 184 = .ok (.iload_n 1, 1) := by decide +kernel
theorem dM_init_185 : decode b_M_init 185 = .ok (.putfield 75, 3) := by decide +kernel
theorem dM_init_188 : decode b_M_init 188 = .ok (.aload_n 0, 1) := by decide +kernel
theorem dM_init_189 : decode b_M_init 189 = .ok (.iload_n 2, 1) := by decide +kernel
theorem dM_init_190 : decode b_M_init 190 = .ok (.iconst 1, 1) := by decide +kernel
theorem dM_init_191 : decode b_M_init 191 = .ok (.if_icmp .ge 7, 3) := by decide +kernel
theorem dM_init_194 : decode b_M_init 194 = .ok (.iconst 1, 1) := by decide +kernel
theorem dM_init_195 : decode b_M_init 195 = .ok (.goto 15, 3) := by decide +kernel
theorem dM_init_198 : decode b_M_init 198 = .ok (.iload_n 2, 1) := by decide +kernel
theorem dM_init_199 : decode b_M_init 199 = .ok (.bipush 31, 2) := by decide +kernel
theorem dM_init_201 : decode b_M_init 201 = .ok (.if_icmp .le 8, 3) := by decide +kernel
theorem dM_init_204 : decode b_M_init 204 = .ok (.bipush 31, 2) := by decide +kernel
theorem dM_init_206 : decode b_M_init 206 = .ok (.goto 4, 3) := by decide +kernel
theorem dM_init_209 : decode b_M_init 209 = .ok (.iload_n 2, 1) := by decide +kernel
theorem dM_init_210 : decode b_M_init 210 = .ok (.putfield 78, 3) := by decide +kernel
theorem dM_init_213 : decode b_M_init 213 = .ok (.iconst 0, 1) := by decide +kernel
theorem dM_init_214 : decode b_M_init 214 = .ok (.istore_n 3, 1) := by decide +kernel
theorem dM_init_215 : decode b_M_init 215 = .ok (.iload_n 3, 1) := by decide +kernel
theorem dM_init_216 : decode b_M_init 216 = .ok (.iconst 4, 1) := by decide +kernel
theorem dM_init_217 : decode b_M_init 217 = .ok (.if_icmp .ge 16, 3) := by decide +kernel
theorem dM_init_220 : decode b_M_init 220 = .ok (.aload_n 0, 1) := by decide +kernel
theorem dM_init_221 : decode b_M_init 221 = .ok (.getfield 57, 3) := by decide +kernel
theorem dM_init_224 : decode b_M_init 224 = .ok (.iload_n 3, 1) := by decide +kernel
theorem dM_init_225 : decode b_M_init 225 = .ok (.iconst (-1), 1) := by decide +kernel
theorem dM_init_226 : decode b_M_init 226 = .ok (.iastore, 1) := by decide +kernel
theorem dM_init_227 : decode b_M_init 227 = .ok (.iinc 3 1, 3) := by decide +kernel
theorem dM_init_230 : decode b_M_init 230 = .ok (.goto (-15), 3) := by decide +kernel
theorem dM_init_233 : decode b_M_init 233 = .ok (.return_, 1) := by decide +kernel
end
section
/-! rows of my own over the kit: calls and ends in a world that is a function of a state -/
section KK
variable {p : Program} {l : Launch} {e : Env} {R : Room} {s : State} {m : MethodId} {args : Array Value} {below : List Frame} {meth : Method} {c : Code} {H : Heap} {locs : List Loc} {Q : State → Prop}
variable {Sg : Type} {w : Sg → va_W} {D : va_G} {cl : List vw_C} {tys : List (ClassId × FieldType)} {A0 A1 : Nat → Prop} {H0 : Heap}
def kk_B (D : va_G) (cl : List vw_C) (tys : List (ClassId × FieldType)) (w : Sg → va_W) (u : Sg) (t : State) : Prop := va_P D cl (w u) t.heap ∧ va_K D cl tys t
def kk_Pc (D : va_G) (cl : List vw_C) (tys : List (ClassId × FieldType)) (ws : va_W) (av : List Value) : Array Value → State → Prop := va_Pc av (fun U => va_P D cl ws U.heap ∧ va_K D cl tys U)
theorem kk_blind {ws : va_W} {av : List Value} : FrameBlind (kk_Pc D cl tys ws av) := fun a U g mk q => by
  obtain ⟨q0, qP, qK⟩ := q
  exact ⟨q0, qP, va_K.moved (u := U) (U := U.calling g mk a) (Vm.Alike.refl U.vm) qK⟩
theorem kk_pre {ws : va_W} {av : List Value} (hP : va_P D cl ws H) (hK : va_K D cl tys s) : ∀ U : State, U.heap = H → s.WarmedH U.vm → kk_Pc D cl tys ws av av.toArray U := fun U hU hW => ⟨rfl, by rw [hU]; exact hP, va_K.moved hW.alike hK⟩
variable {y : MethodName} {bytes cc : ByteArray} {maxL nL n index : Nat} {ret : Option FieldType} {ws : List Cond} {rm : Room} {Ts : List Cond} {own C : String} {b : Addr} {As rest st0 : List Value} {pc : Nat} {ls : Array Slot} {S : Sg} {cells slots : Nat}
theorem kk_ci {post : Int32 → Sg → Prop} (F : CallFix p m c cc nL s args Ts own) (hM : Met l y ws rm (kk_Pc D cl tys (w S) (.ref b :: As)) (va_Qi post (kk_B D cl tys w) A1) 0 0 A1) (cw : CallW R s args own C index y bytes maxL ret ws rm 0 0 n) (hrecv : ∃ cellB : Cell, H[b]? = some cellB ∧ cellB.vm.isStatics = false ∧ s.vm.findClass C = some cellB.cls)
    (hP : va_P D cl (w S) H) (hK : va_K D cl tys s) (hS : va_S A0 H0 H locs) (hA : ∀ q, A1 q → A0 q) (hn : As.length = n) (hsize : ls.size = nL) (hstack : st0 = As.reverse ++ .ref b :: rest) (hW : (rest.map fun v => v.category).sum ≤ 8) (hdg : decode cc pc = .ok (.invokevirtual index, 3)) (hf : cells ≤ R.cells ∧ slots ≤ R.slots)
    (kk : ∀ (r : Int32) (u : Sg) (H1 : Heap) (locs1 : List Loc), post r u → va_P D cl (w u) H1 → va_S A0 H0 H1 locs1 → W p l e R s m args below meth c H1 locs1 cells slots Q (F0 m (pc + 3) ls (.int r :: rest))) : W p l e R s m args below meth c H locs cells slots Q (F0 m pc ls st0) :=
  va_calli (va_runV F hM cw ⟨kk_blind, hrecv, kk_pre hP hK⟩ rfl hn hsize hstack (lv_room hW) hdg hf) hS (fun q _ h => hA q h) hA (fun r u t H1 locs1 ht hvm hp hB _ _ hS1 => kk r u H1 locs1 hp (by rw [← ht]; exact hB.1) hS1)
theorem kk_cl {post : Int64 → Sg → Prop} (F : CallFix p m c cc nL s args Ts own) (hM : Met l y ws rm (kk_Pc D cl tys (w S) (.ref b :: As)) (va_Ql post (kk_B D cl tys w) A1) 0 0 A1) (cw : CallW R s args own C index y bytes maxL ret ws rm 0 0 n) (hrecv : ∃ cellB : Cell, H[b]? = some cellB ∧ cellB.vm.isStatics = false ∧ s.vm.findClass C = some cellB.cls)
    (hP : va_P D cl (w S) H) (hK : va_K D cl tys s) (hS : va_S A0 H0 H locs) (hA : ∀ q, A1 q → A0 q) (hn : As.length = n) (hsize : ls.size = nL) (hstack : st0 = As.reverse ++ .ref b :: rest) (hW : (rest.map fun v => v.category).sum ≤ 8) (hdg : decode cc pc = .ok (.invokevirtual index, 3)) (hf : cells ≤ R.cells ∧ slots ≤ R.slots)
    (kk : ∀ (r : Int64) (u : Sg) (H1 : Heap) (locs1 : List Loc), post r u → va_P D cl (w u) H1 → va_S A0 H0 H1 locs1 → W p l e R s m args below meth c H1 locs1 cells slots Q (F0 m (pc + 3) ls (.long r :: rest))) : W p l e R s m args below meth c H locs cells slots Q (F0 m pc ls st0) :=
  va_calll (va_runV F hM cw ⟨kk_blind, hrecv, kk_pre hP hK⟩ rfl hn hsize hstack (lv_room hW) hdg hf) hS (fun q _ h => hA q h) hA (fun r u t H1 locs1 ht hvm hp hB _ _ hS1 => kk r u H1 locs1 hp (by rw [← ht]; exact hB.1) hS1)
theorem kk_cv {post : Sg → Prop} (F : CallFix p m c cc nL s args Ts own) (hM : Met l y ws rm (kk_Pc D cl tys (w S) (.ref b :: As)) (va_Qv post (kk_B D cl tys w) A1) 0 0 A1) (cw : CallW R s args own C index y bytes maxL ret ws rm 0 0 n) (hrecv : ∃ cellB : Cell, H[b]? = some cellB ∧ cellB.vm.isStatics = false ∧ s.vm.findClass C = some cellB.cls)
    (hP : va_P D cl (w S) H) (hK : va_K D cl tys s) (hS : va_S A0 H0 H locs) (hA : ∀ q, A1 q → A0 q) (hn : As.length = n) (hsize : ls.size = nL) (hstack : st0 = As.reverse ++ .ref b :: rest) (hW : (rest.map fun v => v.category).sum ≤ 8) (hdg : decode cc pc = .ok (.invokevirtual index, 3)) (hf : cells ≤ R.cells ∧ slots ≤ R.slots)
    (kk : ∀ (u : Sg) (H1 : Heap) (locs1 : List Loc), post u → va_P D cl (w u) H1 → va_S A0 H0 H1 locs1 → W p l e R s m args below meth c H1 locs1 cells slots Q (F0 m (pc + 3) ls rest)) : W p l e R s m args below meth c H locs cells slots Q (F0 m pc ls st0) :=
  va_callv (va_runV F hM cw ⟨kk_blind, hrecv, kk_pre hP hK⟩ rfl hn hsize hstack (lv_room hW) hdg hf) hS (fun q _ h => hA q h) hA (fun u t H1 locs1 ht hvm hp hB _ _ hS1 => kk u H1 locs1 hp (by rw [← ht]; exact hB.1) hS1)
/-- an answer that is one of a row of objects, or null -/
theorem kk_co {ad : Nat → Nat} {post : Option Nat → Sg → Prop} (F : CallFix p m c cc nL s args Ts own) (hM : Met l y ws rm (kk_Pc D cl tys (w S) (.ref b :: As)) (va_Qe ad post (kk_B D cl tys w) A1) 0 0 A1) (cw : CallW R s args own C index y bytes maxL ret ws rm 0 0 n) (hrecv : ∃ cellB : Cell, H[b]? = some cellB ∧ cellB.vm.isStatics = false ∧ s.vm.findClass C = some cellB.cls)
    (hP : va_P D cl (w S) H) (hK : va_K D cl tys s) (hS : va_S A0 H0 H locs) (hA : ∀ q, A1 q → A0 q) (hn : As.length = n) (hsize : ls.size = nL) (hstack : st0 = As.reverse ++ .ref b :: rest) (hW : (rest.map fun v => v.category).sum ≤ 8) (hdg : decode cc pc = .ok (.invokevirtual index, 3)) (hf : cells ≤ R.cells ∧ slots ≤ R.slots)
    (kn : ∀ (u : Sg) (H1 : Heap) (locs1 : List Loc), post none u → va_P D cl (w u) H1 → va_S A0 H0 H1 locs1 → W p l e R s m args below meth c H1 locs1 cells slots Q (F0 m (pc + 3) ls (.null :: rest)))
    (ks : ∀ (t : Nat) (u : Sg) (H1 : Heap) (locs1 : List Loc), post (some t) u → va_P D cl (w u) H1 → va_S A0 H0 H1 locs1 → W p l e R s m args below meth c H1 locs1 cells slots Q (F0 m (pc + 3) ls (.ref (ad t) :: rest))) : W p l e R s m args below meth c H locs cells slots Q (F0 m pc ls st0) :=
  va_calle (va_runV F hM cw ⟨kk_blind, hrecv, kk_pre hP hK⟩ rfl hn hsize hstack (lv_room hW) hdg hf) hS (fun q _ h => hA q h) hA (fun r u t H1 locs1 ht hvm hp hB _ _ hS1 => by
    cases r with
    | none => exact kn u H1 locs1 hp (by rw [← ht]; exact hB.1) hS1
    | some a => exact ks a u H1 locs1 hp (by rw [← ht]; exact hB.1) hS1)
/-- a static method that has no world: an int out of ints -/
def kk_P0 (av : List Value) : Array Value → State → Prop := va_Pc av (fun _ => True)
theorem kk_cs {r0 : Int32} (F : CallFix p m c cc nL s args Ts own) (hM : Met l y ws rm (kk_P0 As) (va_Qi (fun r (_ : Unit) => r = r0) (fun _ _ => True) (fun _ => False)) 0 0 (fun _ => False)) (cw : CallB R s args own index y bytes maxL ret ws rm 0 0 n ∧ (Cond.static y).before args s = true)
    (hP : va_P D cl (w S) H) (hS : va_S A0 H0 H locs) (hn : As.length = n) (hsize : ls.size = nL) (hstack : st0 = As.reverse ++ rest) (hW : (rest.map fun v => v.category).sum ≤ 8) (hdg : decode cc pc = .ok (.invokestatic index, 3)) (hf : cells ≤ R.cells ∧ slots ≤ R.slots)
    (kk : ∀ (H1 : Heap) (locs1 : List Loc), va_P D cl (w S) H1 → va_S A0 H0 H1 locs1 → W p l e R s m args below meth c H1 locs1 cells slots Q (F0 m (pc + 3) ls (.int r0 :: rest))) : W p l e R s m args below meth c H locs cells slots Q (F0 m pc ls st0) :=
  va_calli (va_runS F hM cw ⟨fun _ _ _ _ q => q, fun U hU hW => ⟨rfl, trivial⟩⟩ rfl hn hsize hstack (lv_room hW) hdg hf) hS (fun q _ h => h.elim) (fun q h => h.elim) (fun r u t H1 locs1 ht hvm hp hB hz hk hS1 => by
    subst hp
    exact kk H1 locs1 (hP.kept (fun k q hq => hk q.1 ((hP k q hq).lt) (fun h => h))) hS1)
theorem kk_cp {r0 : Int32} (F : CallFix p m c cc nL s args Ts own) (hM : Met l y ws rm (kk_P0 (.ref b :: As)) (va_Qi (fun r (_ : Unit) => r = r0) (fun _ _ => True) (fun _ => False)) 0 0 (fun _ => False)) (cw : CallW R s args own C index y bytes maxL ret ws rm 0 0 n) (hrecv : ∃ cellB : Cell, H[b]? = some cellB ∧ cellB.vm.isStatics = false ∧ s.vm.findClass C = some cellB.cls)
    (hP : va_P D cl (w S) H) (hS : va_S A0 H0 H locs) (hn : As.length = n) (hsize : ls.size = nL) (hstack : st0 = As.reverse ++ .ref b :: rest) (hW : (rest.map fun v => v.category).sum ≤ 8) (hdg : decode cc pc = .ok (.invokevirtual index, 3)) (hf : cells ≤ R.cells ∧ slots ≤ R.slots)
    (kk : ∀ (H1 : Heap) (locs1 : List Loc), va_P D cl (w S) H1 → va_S A0 H0 H1 locs1 → W p l e R s m args below meth c H1 locs1 cells slots Q (F0 m (pc + 3) ls (.int r0 :: rest))) : W p l e R s m args below meth c H locs cells slots Q (F0 m pc ls st0) :=
  va_calli (va_runV F hM cw ⟨fun _ _ _ _ q => q, hrecv, fun U hU hW => ⟨rfl, trivial⟩⟩ rfl hn hsize hstack (lv_room hW) hdg hf) hS (fun q _ h => h.elim) (fun q h => h.elim) (fun r u t H1 locs1 ht hvm hp hB hz hk hS1 => by
    subst hp
    exact kk H1 locs1 (hP.kept (fun k q hq => hk q.1 ((hP k q hq).lt) (fun h => h))) hS1)
theorem kk_iret {post : Int32 → Sg → Prop} {v : Int32} (hx : p.tables.exec = Jvm.exec) (hb : c.code = cc) (hr : meth.sig.returnType = some .int) (hlocks : meth.locks = false) (hP : va_P D cl (w S) H) (hK : va_K D cl tys s) (hS : va_S A1 s.heap H locs) (hpost : post v S) (hdg : decode cc pc = .ok (.ireturn, 1)) : W p l e R s m args below meth c H locs cells slots (MQ below (va_Qi post (kk_B D cl tys w) A1) args s cells slots A1) (F0 m pc ls [.int v]) :=
  W.iret hx hb hr (fun t ht hW => ⟨⟨v, S, rfl, hpost, by rw [ht]; exact hP, va_K.moved hW.alike hK⟩, hS.F ht⟩) hS.2.2 hdg hlocks
theorem kk_zret {post : Int32 → Sg → Prop} {v : Int32} (hx : p.tables.exec = Jvm.exec) (hb : c.code = cc) (hr : meth.sig.returnType = some .boolean) (hlocks : meth.locks = false) (hn : narrow .boolean (.int v) = .int v) (hP : va_P D cl (w S) H) (hK : va_K D cl tys s) (hS : va_S A1 s.heap H locs) (hpost : post v S) (hdg : decode cc pc = .ok (.ireturn, 1)) : W p l e R s m args below meth c H locs cells slots (MQ below (va_Qi post (kk_B D cl tys w) A1) args s cells slots A1) (F0 m pc ls [.int v]) :=
  W.zret hx hb hr hn (fun t ht hW => ⟨⟨v, S, rfl, hpost, by rw [ht]; exact hP, va_K.moved hW.alike hK⟩, hS.F ht⟩) hS.2.2 hdg hlocks
theorem kk_lret {post : Int64 → Sg → Prop} {v : Int64} (hx : p.tables.exec = Jvm.exec) (hb : c.code = cc) (hr : meth.sig.returnType = some .long) (hlocks : meth.locks = false) (hP : va_P D cl (w S) H) (hK : va_K D cl tys s) (hS : va_S A1 s.heap H locs) (hpost : post v S) (hdg : decode cc pc = .ok (.lreturn, 1)) : W p l e R s m args below meth c H locs cells slots (MQ below (va_Ql post (kk_B D cl tys w) A1) args s cells slots A1) (F0 m pc ls [.long v]) :=
  W.lret hx hb hr (fun t ht hW => ⟨⟨v, S, rfl, hpost, by rw [ht]; exact hP, va_K.moved hW.alike hK⟩, hS.F ht⟩) hS.2.2 hdg hlocks
theorem kk_vret {post : Sg → Prop} (hx : p.tables.exec = Jvm.exec) (hb : c.code = cc) (hr : meth.sig.returnType = none) (hlocks : meth.locks = false) (hP : va_P D cl (w S) H) (hK : va_K D cl tys s) (hS : va_S A1 s.heap H locs) (hpost : post S) (hdg : decode cc pc = .ok (.return_, 1)) : W p l e R s m args below meth c H locs cells slots (MQ below (va_Qv post (kk_B D cl tys w) A1) args s cells slots A1) (F0 m pc ls []) :=
  W.vret hx hb hr (fun t ht hW => ⟨⟨S, rfl, hpost, by rw [ht]; exact hP, va_K.moved hW.alike hK⟩, hS.F ht⟩) hS.2.2 hdg hlocks
theorem kk_nret {ad : Nat → Nat} {post : Option Nat → Sg → Prop} {rn : String} (hx : p.tables.exec = Jvm.exec) (hb : c.code = cc) (hr : meth.sig.returnType = some (.object rn)) (hlocks : meth.locks = false) (hP : va_P D cl (w S) H) (hK : va_K D cl tys s) (hS : va_S A1 s.heap H locs) (hpost : post none S) (hdg : decode cc pc = .ok (.areturn, 1)) : W p l e R s m args below meth c H locs cells slots (MQ below (va_Qe ad post (kk_B D cl tys w) A1) args s cells slots A1) (F0 m pc ls [.null]) :=
  W.aret hx hb hr (Or.inl ⟨_, rfl⟩) (Or.inl rfl) (fun t ht hW => ⟨⟨none, S, rfl, hpost, by rw [ht]; exact hP, va_K.moved hW.alike hK⟩, hS.F ht⟩) hS.2.2 hdg hlocks
theorem kk_aret {ad : Nat → Nat} {post : Option Nat → Sg → Prop} {rn : String} {t : Nat} (hx : p.tables.exec = Jvm.exec) (hb : c.code = cc) (hr : meth.sig.returnType = some (.object rn)) (hlocks : meth.locks = false) (hP : va_P D cl (w S) H) (hK : va_K D cl tys s) (hS : va_S A1 s.heap H locs) (hpost : post (some t) S) (hdg : decode cc pc = .ok (.areturn, 1)) : W p l e R s m args below meth c H locs cells slots (MQ below (va_Qe ad post (kk_B D cl tys w) A1) args s cells slots A1) (F0 m pc ls [.ref (ad t)]) :=
  W.aret hx hb hr (Or.inl ⟨_, rfl⟩) (Or.inr ⟨_, rfl⟩) (fun t1 ht hW => ⟨⟨some t, S, rfl, hpost, by rw [ht]; exact hP, va_K.moved hW.alike hK⟩, hS.F ht⟩) hS.2.2 hdg hlocks
theorem kk_pret {r0 : Int32} {v : Int32} {ty : FieldType} (hx : p.tables.exec = Jvm.exec) (hb : c.code = cc) (hr : meth.sig.returnType = some ty) (hlocks : meth.locks = false) (hn : narrow ty (.int v) = .int v) (hv : v = r0) (hdg : decode cc pc = .ok (.ireturn, 1)) : W p l e R s m args below meth c s.heap [] cells slots (MQ below (va_Qi (fun r (_ : Unit) => r = r0) (fun _ _ => True) (fun _ => False)) args s cells slots (fun _ => False)) (F0 m pc ls [.int v]) :=
  W.zret hx hb hr hn (fun t ht hW => ⟨⟨v, (), rfl, hv, trivial⟩, Nat.le_of_eq (by rw [ht]), fun q _ _ => by rw [ht]⟩) (fun q h => by cases h) hdg hlocks
end KK
/-- a pair is taken apart; a value gets a name; a row's member or none -/
def kk_b {α β γ : Type} (p : α × β) (k : α → β → γ) : γ := k p.1 p.2
theorem kk_b_eq {α β γ : Type} {p : α × β} {k : α → β → γ} {a : α} {b : β} (h : p = (a, b)) : kk_b p k = k a b := by rw [h]; rfl
def kk_v {α γ : Type} (x : α) (k : α → γ) : γ := k x
theorem kk_v_eq {α γ : Type} {x : α} {k : α → γ} {a : α} (h : x = a) : kk_v x k = k a := by rw [h]; rfl
def kk_o {γ : Type} (o : Option Nat) (a : γ) (k : Nat → γ) : γ := match o with
  | none => a
  | some t => k t
theorem kk_o_none {γ : Type} {a : γ} {k : Nat → γ} : kk_o none a k = a := rfl
theorem kk_o_some {γ : Type} {a : γ} {k : Nat → γ} {t : Nat} : kk_o (some t) a k = k t := rfl
def kk_rv (ad : Nat → Nat) (o : Option Nat) : Value := match o with
  | none => .null
  | some t => .ref (ad t)
end
section
/-! the states of the class (kx) and of the reference (km), as functions; the cells that hold them -/
abbrev kx_S : Type := (Nat → Nat → Int32) × (Nat → Nat → Int64)
def kI (S : kx_S) (f i : Nat) : Int32 := S.1 f i
def kJ (S : kx_S) (f i : Nat) : Int64 := S.2 f i
def sI (S : kx_S) (f i : Nat) (v : Int32) : kx_S := (fun a => if a = f then upd (S.1 f) i v else S.1 a, S.2)
def sJ (S : kx_S) (f i : Nat) (v : Int64) : kx_S := (S.1, fun a => if a = f then vp_updL (S.2 f) i v else S.2 a)
theorem kI_sI {S : kx_S} {f i a b : Nat} {v : Int32} : kI (sI S f i v) a b = if a = f ∧ b = i then v else kI S a b := by
  unfold kI sI upd
  by_cases h : a = f
  · subst h
    by_cases h2 : b = i <;> simp [h2]
  · simp [h]
theorem kI_sJ {S : kx_S} {f i a b : Nat} {v : Int64} : kI (sJ S f i v) a b = kI S a b := rfl
theorem kJ_sI {S : kx_S} {f i a b : Nat} {v : Int32} : kJ (sI S f i v) a b = kJ S a b := rfl
theorem kJ_sJ {S : kx_S} {f i a b : Nat} {v : Int64} : kJ (sJ S f i v) a b = if a = f ∧ b = i then v else kJ S a b := by
  unfold kJ sJ vp_updL
  by_cases h : a = f
  · subst h
    by_cases h2 : b = i <;> simp [h2]
  · simp [h]
def kx_ta (ad : Nat → Nat) (t : Nat) : Nat := ad (11 + t)
def kx_qa (ad : Nat → Nat) (q : Nat) : Nat := ad (5 + q)

def kx_tf (S : kx_S) (t : Nat) : List Value := [.int (nI t), .int (kI S 10 t), .int (kI S 11 t), .int (kI S 12 t), .int (kI S 13 t), .int (kI S 14 t), .int (kI S 15 t), .long (kJ S 0 t), .int (kI S 16 t), .long (kJ S 1 t), .int (kI S 17 t), .int (kI S 18 t), .int (kI S 19 t), .int (kI S 20 t)]
def kx_h (ad : Nat → Nat) (cs : Nat → ClassId) (S : kx_S) : va_W := [(ad 0, .inr (2, [.int (kI S 0 0), .int (kI S 1 0), .ref (ad 1), .ref (ad 2), .ref (ad 3), .ref (ad 4), .int (kI S 2 0), .long (kJ S 2 0)])), (ad 1, .inl (cs 1, 8, .inr (.inr (.inr (.inr (fun i => if i < 8 then some (kx_ta ad i) else none)))))), (ad 2, .inl (cs 2, 4, .inl (kI S 3))), (ad 3, .inl (cs 3, 2, .inl (kI S 4))), (ad 4, .inl (cs 4, 2, .inr (.inr (.inr (.inr (fun i => if i < 2 then some (kx_qa ad i) else none)))))), (ad 5, .inr (0, [.ref (ad 7), .ref (ad 9), .int (kI S 9 0)])), (ad 6, .inr (0, [.ref (ad 8), .ref (ad 10), .int (kI S 9 1)])), (ad 7, .inl (cs 7, 4, .inl (kI S 5))), (ad 8, .inl (cs 8, 4, .inl (kI S 6))), (ad 9, .inl (cs 9, 4, .inl (kI S 7))), (ad 10, .inl (cs 10, 4, .inl (kI S 8)))]
def kx_w (ad : Nat → Nat) (cs : Nat → ClassId) (S : kx_S) : va_W := kx_h ad cs S ++ (List.range 8).map (fun t => (kx_ta ad t, .inr (1, kx_tf S t)))
def kx_t (cs : Nat → ClassId) : List (ClassId × FieldType) := [(cs 1, .object R_T), (cs 2, .int), (cs 3, .int), (cs 4, .object R_Q), (cs 7, .int), (cs 8, .int), (cs 9, .int), (cs 10, .int)]
def kx_inj (ad : Nat → Nat) : Prop := ∀ i j, i < 19 → j < 19 → ad i = ad j → i = j
def kx_A (ad : Nat → Nat) (q : Nat) : Prop := ∃ k, k < 19 ∧ q = ad k
theorem kx_len (ad : Nat → Nat) (cs : Nat → ClassId) (S : kx_S) : (kx_w ad cs S).length = 19 := rfl
theorem kx_adr {ad : Nat → Nat} {cs : Nat → ClassId} {S : kx_S} : ∀ (k : Nat) (q : Nat × va_E), (kx_w ad cs S)[k]? = some q → k < 19 ∧ q.1 = ad k
  | 0, q, h => by have e := Option.some.inj h; subst e; exact ⟨by decide, rfl⟩
  | 1, q, h => by have e := Option.some.inj h; subst e; exact ⟨by decide, rfl⟩
  | 2, q, h => by have e := Option.some.inj h; subst e; exact ⟨by decide, rfl⟩
  | 3, q, h => by have e := Option.some.inj h; subst e; exact ⟨by decide, rfl⟩
  | 4, q, h => by have e := Option.some.inj h; subst e; exact ⟨by decide, rfl⟩
  | 5, q, h => by have e := Option.some.inj h; subst e; exact ⟨by decide, rfl⟩
  | 6, q, h => by have e := Option.some.inj h; subst e; exact ⟨by decide, rfl⟩
  | 7, q, h => by have e := Option.some.inj h; subst e; exact ⟨by decide, rfl⟩
  | 8, q, h => by have e := Option.some.inj h; subst e; exact ⟨by decide, rfl⟩
  | 9, q, h => by have e := Option.some.inj h; subst e; exact ⟨by decide, rfl⟩
  | 10, q, h => by have e := Option.some.inj h; subst e; exact ⟨by decide, rfl⟩
  | 11, q, h => by have e := Option.some.inj h; subst e; exact ⟨by decide, rfl⟩
  | 12, q, h => by have e := Option.some.inj h; subst e; exact ⟨by decide, rfl⟩
  | 13, q, h => by have e := Option.some.inj h; subst e; exact ⟨by decide, rfl⟩
  | 14, q, h => by have e := Option.some.inj h; subst e; exact ⟨by decide, rfl⟩
  | 15, q, h => by have e := Option.some.inj h; subst e; exact ⟨by decide, rfl⟩
  | 16, q, h => by have e := Option.some.inj h; subst e; exact ⟨by decide, rfl⟩
  | 17, q, h => by have e := Option.some.inj h; subst e; exact ⟨by decide, rfl⟩
  | 18, q, h => by have e := Option.some.inj h; subst e; exact ⟨by decide, rfl⟩
  | k + 19, q, h => by have h2 := (List.getElem?_eq_some_iff.mp h).1; rw [kx_len] at h2; omega
theorem kx_D {ad : Nat → Nat} (hj : kx_inj ad) {cs : Nat → ClassId} {S : kx_S} : va_D (kx_A ad) (kx_w ad cs S) := by
  refine ⟨fun i j p q hi hj2 e => ?_, fun k q hk => ⟨k, (kx_adr k q hk).1, (kx_adr k q hk).2⟩⟩
  obtain ⟨h1, h2⟩ := kx_adr i p hi
  obtain ⟨h3, h4⟩ := kx_adr j q hj2
  exact hj i j h1 h3 (by rw [← h2, ← h4, e])
theorem kx_wT {ad : Nat → Nat} {cs : Nat → ClassId} {S : kx_S} : ∀ {t : Nat}, t < 8 → (kx_w ad cs S)[11 + t]? = some (kx_ta ad t, .inr (1, kx_tf S t))
  | 0, _ => rfl
  | 1, _ => rfl
  | 2, _ => rfl
  | 3, _ => rfl
  | 4, _ => rfl
  | 5, _ => rfl
  | 6, _ => rfl
  | 7, _ => rfl
  | t + 8, h => by omega
theorem kk_rset {α : Type} (g : Nat → α) (n t : Nat) (x : α) : ((List.range n).map g).set t x = (List.range n).map (fun j => if j = t then x else g j) := by
  apply List.ext_getElem?
  intro j
  rw [List.getElem?_set]
  by_cases hj : j < n
  · by_cases ht : t = j
    · subst ht
      simp [hj]
    · have ht2 : ¬ j = t := fun h => ht h.symm
      simp [hj, ht, ht2]
  · by_cases ht : t = j
    · subst ht
      simp [hj]
    · simp [hj, ht]
theorem kx_uT {ad : Nat → Nat} {cs : Nat → ClassId} {S S2 : kx_S} {t k : Nat} {v : Value} (hh : kx_h ad cs S2 = kx_h ad cs S) (h1 : kx_tf S2 t = (kx_tf S t).set k v) (h2 : ∀ j, j ≠ t → kx_tf S2 j = kx_tf S j) : (kx_w ad cs S).set (11 + t) (kx_ta ad t, .inr (1, (kx_tf S t).set k v)) = kx_w ad cs S2 := by
  unfold kx_w
  rw [hh, List.set_append_right _ _ (by show 11 ≤ 11 + t; omega), show 11 + t - (kx_h ad cs S).length = t from by show 11 + t - 11 = t; omega, kk_rset]
  congr 1
  apply List.map_congr_left
  intro j _
  by_cases hj : j = t
  · subst hj
    simp [h1]
  · simp [hj, h2 j hj]
theorem kx_u_state {D : va_G} {cl : List vw_C} {H : Heap} {ad : Nat → Nat} {cs : Nat → ClassId} {S : kx_S} {t : Nat} {v : Int32} (_ : t < 8) (h : va_P D cl ((kx_w ad cs S).set (11 + t) (kx_ta ad t, .inr (1, (kx_tf S t).set 1 (.int v)))) H) : va_P D cl (kx_w ad cs (sI S 10 t v)) H := by
  rw [kx_uT (ad := ad) (cs := cs) (S := S) (S2 := sI S 10 t v) (t := t) (k := 1) (v := .int v) rfl (by simp [kx_tf, kI_sI, kI_sJ, kJ_sI, kJ_sJ]) (fun j hj => by simp [kx_tf, kI_sI, kI_sJ, kJ_sI, kJ_sJ, hj])] at h
  exact h
theorem kx_u_base {D : va_G} {cl : List vw_C} {H : Heap} {ad : Nat → Nat} {cs : Nat → ClassId} {S : kx_S} {t : Nat} {v : Int32} (_ : t < 8) (h : va_P D cl ((kx_w ad cs S).set (11 + t) (kx_ta ad t, .inr (1, (kx_tf S t).set 2 (.int v)))) H) : va_P D cl (kx_w ad cs (sI S 11 t v)) H := by
  rw [kx_uT (ad := ad) (cs := cs) (S := S) (S2 := sI S 11 t v) (t := t) (k := 2) (v := .int v) rfl (by simp [kx_tf, kI_sI, kI_sJ, kJ_sI, kJ_sJ]) (fun j hj => by simp [kx_tf, kI_sI, kI_sJ, kJ_sI, kJ_sJ, hj])] at h
  exact h
theorem kx_u_effective {D : va_G} {cl : List vw_C} {H : Heap} {ad : Nat → Nat} {cs : Nat → ClassId} {S : kx_S} {t : Nat} {v : Int32} (_ : t < 8) (h : va_P D cl ((kx_w ad cs S).set (11 + t) (kx_ta ad t, .inr (1, (kx_tf S t).set 3 (.int v)))) H) : va_P D cl (kx_w ad cs (sI S 12 t v)) H := by
  rw [kx_uT (ad := ad) (cs := cs) (S := S) (S2 := sI S 12 t v) (t := t) (k := 3) (v := .int v) rfl (by simp [kx_tf, kI_sI, kI_sJ, kJ_sI, kJ_sJ]) (fun j hj => by simp [kx_tf, kI_sI, kI_sJ, kJ_sI, kJ_sJ, hj])] at h
  exact h
theorem kx_u_sliced {D : va_G} {cl : List vw_C} {H : Heap} {ad : Nat → Nat} {cs : Nat → ClassId} {S : kx_S} {t : Nat} {v : Int32} (_ : t < 8) (h : va_P D cl ((kx_w ad cs S).set (11 + t) (kx_ta ad t, .inr (1, (kx_tf S t).set 4 (.int v)))) H) : va_P D cl (kx_w ad cs (sI S 13 t v)) H := by
  rw [kx_uT (ad := ad) (cs := cs) (S := S) (S2 := sI S 13 t v) (t := t) (k := 4) (v := .int v) rfl (by simp [kx_tf, kI_sI, kI_sJ, kJ_sI, kJ_sJ]) (fun j hj => by simp [kx_tf, kI_sI, kI_sJ, kJ_sI, kJ_sJ, hj])] at h
  exact h
theorem kx_u_used {D : va_G} {cl : List vw_C} {H : Heap} {ad : Nat → Nat} {cs : Nat → ClassId} {S : kx_S} {t : Nat} {v : Int32} (_ : t < 8) (h : va_P D cl ((kx_w ad cs S).set (11 + t) (kx_ta ad t, .inr (1, (kx_tf S t).set 5 (.int v)))) H) : va_P D cl (kx_w ad cs (sI S 14 t v)) H := by
  rw [kx_uT (ad := ad) (cs := cs) (S := S) (S2 := sI S 14 t v) (t := t) (k := 5) (v := .int v) rfl (by simp [kx_tf, kI_sI, kI_sJ, kJ_sI, kJ_sJ]) (fun j hj => by simp [kx_tf, kI_sI, kI_sJ, kJ_sI, kJ_sJ, hj])] at h
  exact h
theorem kx_u_result {D : va_G} {cl : List vw_C} {H : Heap} {ad : Nat → Nat} {cs : Nat → ClassId} {S : kx_S} {t : Nat} {v : Int32} (_ : t < 8) (h : va_P D cl ((kx_w ad cs S).set (11 + t) (kx_ta ad t, .inr (1, (kx_tf S t).set 6 (.int v)))) H) : va_P D cl (kx_w ad cs (sI S 15 t v)) H := by
  rw [kx_uT (ad := ad) (cs := cs) (S := S) (S2 := sI S 15 t v) (t := t) (k := 6) (v := .int v) rfl (by simp [kx_tf, kI_sI, kI_sJ, kJ_sI, kJ_sJ]) (fun j hj => by simp [kx_tf, kI_sI, kI_sJ, kJ_sI, kJ_sJ, hj])] at h
  exact h
theorem kx_u_since {D : va_G} {cl : List vw_C} {H : Heap} {ad : Nat → Nat} {cs : Nat → ClassId} {S : kx_S} {t : Nat} {v : Int64} (_ : t < 8) (h : va_P D cl ((kx_w ad cs S).set (11 + t) (kx_ta ad t, .inr (1, (kx_tf S t).set 7 (.long v)))) H) : va_P D cl (kx_w ad cs (sJ S 0 t v)) H := by
  rw [kx_uT (ad := ad) (cs := cs) (S := S) (S2 := sJ S 0 t v) (t := t) (k := 7) (v := .long v) rfl (by simp [kx_tf, kI_sI, kI_sJ, kJ_sI, kJ_sJ]) (fun j hj => by simp [kx_tf, kI_sI, kI_sJ, kJ_sI, kJ_sJ, hj])] at h
  exact h
theorem kx_u_waitsOn {D : va_G} {cl : List vw_C} {H : Heap} {ad : Nat → Nat} {cs : Nat → ClassId} {S : kx_S} {t : Nat} {v : Int32} (_ : t < 8) (h : va_P D cl ((kx_w ad cs S).set (11 + t) (kx_ta ad t, .inr (1, (kx_tf S t).set 8 (.int v)))) H) : va_P D cl (kx_w ad cs (sI S 16 t v)) H := by
  rw [kx_uT (ad := ad) (cs := cs) (S := S) (S2 := sI S 16 t v) (t := t) (k := 8) (v := .int v) rfl (by simp [kx_tf, kI_sI, kI_sJ, kJ_sI, kJ_sJ]) (fun j hj => by simp [kx_tf, kI_sI, kI_sJ, kJ_sI, kJ_sJ, hj])] at h
  exact h
theorem kx_u_deadline {D : va_G} {cl : List vw_C} {H : Heap} {ad : Nat → Nat} {cs : Nat → ClassId} {S : kx_S} {t : Nat} {v : Int64} (_ : t < 8) (h : va_P D cl ((kx_w ad cs S).set (11 + t) (kx_ta ad t, .inr (1, (kx_tf S t).set 9 (.long v)))) H) : va_P D cl (kx_w ad cs (sJ S 1 t v)) H := by
  rw [kx_uT (ad := ad) (cs := cs) (S := S) (S2 := sJ S 1 t v) (t := t) (k := 9) (v := .long v) rfl (by simp [kx_tf, kI_sI, kI_sJ, kJ_sI, kJ_sJ]) (fun j hj => by simp [kx_tf, kI_sI, kI_sJ, kJ_sI, kJ_sJ, hj])] at h
  exact h
theorem kx_u_mutexInMind {D : va_G} {cl : List vw_C} {H : Heap} {ad : Nat → Nat} {cs : Nat → ClassId} {S : kx_S} {t : Nat} {v : Int32} (_ : t < 8) (h : va_P D cl ((kx_w ad cs S).set (11 + t) (kx_ta ad t, .inr (1, (kx_tf S t).set 10 (.int v)))) H) : va_P D cl (kx_w ad cs (sI S 17 t v)) H := by
  rw [kx_uT (ad := ad) (cs := cs) (S := S) (S2 := sI S 17 t v) (t := t) (k := 10) (v := .int v) rfl (by simp [kx_tf, kI_sI, kI_sJ, kJ_sI, kJ_sJ]) (fun j hj => by simp [kx_tf, kI_sI, kI_sJ, kJ_sI, kJ_sJ, hj])] at h
  exact h
theorem kx_u_resultWhenOwning {D : va_G} {cl : List vw_C} {H : Heap} {ad : Nat → Nat} {cs : Nat → ClassId} {S : kx_S} {t : Nat} {v : Int32} (_ : t < 8) (h : va_P D cl ((kx_w ad cs S).set (11 + t) (kx_ta ad t, .inr (1, (kx_tf S t).set 11 (.int v)))) H) : va_P D cl (kx_w ad cs (sI S 18 t v)) H := by
  rw [kx_uT (ad := ad) (cs := cs) (S := S) (S2 := sI S 18 t v) (t := t) (k := 11) (v := .int v) rfl (by simp [kx_tf, kI_sI, kI_sJ, kJ_sI, kJ_sJ]) (fun j hj => by simp [kx_tf, kI_sI, kI_sJ, kJ_sI, kJ_sJ, hj])] at h
  exact h
theorem kx_u_rank {D : va_G} {cl : List vw_C} {H : Heap} {ad : Nat → Nat} {cs : Nat → ClassId} {S : kx_S} {t : Nat} {v : Int32} (_ : t < 8) (h : va_P D cl ((kx_w ad cs S).set (11 + t) (kx_ta ad t, .inr (1, (kx_tf S t).set 12 (.int v)))) H) : va_P D cl (kx_w ad cs (sI S 19 t v)) H := by
  rw [kx_uT (ad := ad) (cs := cs) (S := S) (S2 := sI S 19 t v) (t := t) (k := 12) (v := .int v) rfl (by simp [kx_tf, kI_sI, kI_sJ, kJ_sI, kJ_sJ]) (fun j hj => by simp [kx_tf, kI_sI, kI_sJ, kJ_sI, kJ_sJ, hj])] at h
  exact h
theorem kx_u_value {D : va_G} {cl : List vw_C} {H : Heap} {ad : Nat → Nat} {cs : Nat → ClassId} {S : kx_S} {t : Nat} {v : Int32} (_ : t < 8) (h : va_P D cl ((kx_w ad cs S).set (11 + t) (kx_ta ad t, .inr (1, (kx_tf S t).set 13 (.int v)))) H) : va_P D cl (kx_w ad cs (sI S 20 t v)) H := by
  rw [kx_uT (ad := ad) (cs := cs) (S := S) (S2 := sI S 20 t v) (t := t) (k := 13) (v := .int v) rfl (by simp [kx_tf, kI_sI, kI_sJ, kJ_sI, kJ_sJ]) (fun j hj => by simp [kx_tf, kI_sI, kI_sJ, kJ_sI, kJ_sJ, hj])] at h
  exact h
theorem kx_u_time {D : va_G} {cl : List vw_C} {H : Heap} {ad : Nat → Nat} {cs : Nat → ClassId} {S : kx_S} {v : Int32} (h : va_P D cl ((kx_w ad cs S).set 0 (ad 0, .inr (2, [.int (kI S 0 0), .int (kI S 1 0), .ref (ad 1), .ref (ad 2), .ref (ad 3), .ref (ad 4), .int (kI S 2 0), .long (kJ S 2 0)].set 6 (.int v)))) H) : va_P D cl (kx_w ad cs (sI S 2 0 v)) H := h
theorem kx_u_lastMoment {D : va_G} {cl : List vw_C} {H : Heap} {ad : Nat → Nat} {cs : Nat → ClassId} {S : kx_S} {v : Int64} (h : va_P D cl ((kx_w ad cs S).set 0 (ad 0, .inr (2, [.int (kI S 0 0), .int (kI S 1 0), .ref (ad 1), .ref (ad 2), .ref (ad 3), .ref (ad 4), .int (kI S 2 0), .long (kJ S 2 0)].set 7 (.long v)))) H) : va_P D cl (kx_w ad cs (sJ S 2 0 v)) H := h
theorem kx_u_size0 {D : va_G} {cl : List vw_C} {H : Heap} {ad : Nat → Nat} {cs : Nat → ClassId} {S : kx_S} {v : Int32} (h : va_P D cl ((kx_w ad cs S).set 5 (ad 5, .inr (0, [.ref (ad 7), .ref (ad 9), .int (kI S 9 0)].set 2 (.int v)))) H) : va_P D cl (kx_w ad cs (sI S 9 0 v)) H := h
theorem kx_u_size1 {D : va_G} {cl : List vw_C} {H : Heap} {ad : Nat → Nat} {cs : Nat → ClassId} {S : kx_S} {v : Int32} (h : va_P D cl ((kx_w ad cs S).set 6 (ad 6, .inr (0, [.ref (ad 8), .ref (ad 10), .int (kI S 9 1)].set 2 (.int v)))) H) : va_P D cl (kx_w ad cs (sI S 9 1 v)) H := h
theorem kx_u_a3 {D : va_G} {cl : List vw_C} {H : Heap} {ad : Nat → Nat} {cs : Nat → ClassId} {S : kx_S} {i : Nat} {v : Int32} (h : va_P D cl ((kx_w ad cs S).set 2 (ad 2, .inl (cs 2, 4, .inl (upd (kI S 3) i v)))) H) : va_P D cl (kx_w ad cs (sI S 3 i v)) H := h
theorem kx_u_a4 {D : va_G} {cl : List vw_C} {H : Heap} {ad : Nat → Nat} {cs : Nat → ClassId} {S : kx_S} {i : Nat} {v : Int32} (h : va_P D cl ((kx_w ad cs S).set 3 (ad 3, .inl (cs 3, 2, .inl (upd (kI S 4) i v)))) H) : va_P D cl (kx_w ad cs (sI S 4 i v)) H := h
theorem kx_u_a5 {D : va_G} {cl : List vw_C} {H : Heap} {ad : Nat → Nat} {cs : Nat → ClassId} {S : kx_S} {i : Nat} {v : Int32} (h : va_P D cl ((kx_w ad cs S).set 7 (ad 7, .inl (cs 7, 4, .inl (upd (kI S 5) i v)))) H) : va_P D cl (kx_w ad cs (sI S 5 i v)) H := h
theorem kx_u_a6 {D : va_G} {cl : List vw_C} {H : Heap} {ad : Nat → Nat} {cs : Nat → ClassId} {S : kx_S} {i : Nat} {v : Int32} (h : va_P D cl ((kx_w ad cs S).set 8 (ad 8, .inl (cs 8, 4, .inl (upd (kI S 6) i v)))) H) : va_P D cl (kx_w ad cs (sI S 6 i v)) H := h
theorem kx_u_a7 {D : va_G} {cl : List vw_C} {H : Heap} {ad : Nat → Nat} {cs : Nat → ClassId} {S : kx_S} {i : Nat} {v : Int32} (h : va_P D cl ((kx_w ad cs S).set 9 (ad 9, .inl (cs 9, 4, .inl (upd (kI S 7) i v)))) H) : va_P D cl (kx_w ad cs (sI S 7 i v)) H := h
theorem kx_u_a8 {D : va_G} {cl : List vw_C} {H : Heap} {ad : Nat → Nat} {cs : Nat → ClassId} {S : kx_S} {i : Nat} {v : Int32} (h : va_P D cl ((kx_w ad cs S).set 10 (ad 10, .inl (cs 10, 4, .inl (upd (kI S 8) i v)))) H) : va_P D cl (kx_w ad cs (sI S 8 i v)) H := h
def kx_wf (S : kx_S) : Prop := (∀ m, m < 4 → kI S 3 m = -1 ∨ ∃ t, t < 8 ∧ kI S 3 m = nI t) ∧ (∀ t, t < 8 → vp_in (kI S 17 t) 4) ∧ ∀ q, q < 2 → ∃ j, j ≤ 4 ∧ kI S 9 q = nI j
theorem kx_wf_J {S : kx_S} {f i : Nat} {v : Int64} (h : kx_wf S) : kx_wf (sJ S f i v) := h
theorem kx_wf_I {S : kx_S} {f i : Nat} {v : Int32} (h : kx_wf S) (hf : f ≠ 3 ∧ f ≠ 17 ∧ f ≠ 9) : kx_wf (sI S f i v) := by
  refine ⟨fun m hm => ?_, fun t ht => ?_, fun q hq => ?_⟩
  · rw [kI_sI, if_neg (fun e => hf.1 e.1.symm)]; exact h.1 m hm
  · rw [kI_sI, if_neg (fun e => hf.2.1 e.1.symm)]; exact h.2.1 t ht
  · rw [kI_sI, if_neg (fun e => hf.2.2 e.1.symm)]; exact h.2.2 q hq
theorem kx_wf_o {S : kx_S} {i : Nat} {v : Int32} (h : kx_wf S) (hv : v = -1 ∨ ∃ t, t < 8 ∧ v = nI t) : kx_wf (sI S 3 i v) := by
  refine ⟨fun m hm => ?_, fun t ht => h.2.1 t ht, fun q hq => h.2.2 q hq⟩
  rw [kI_sI]
  by_cases e : m = i
  · rw [if_pos ⟨rfl, e⟩]; exact hv
  · rw [if_neg (fun z => e z.2)]; exact h.1 m hm
theorem kx_wf_m {S : kx_S} {i : Nat} {v : Int32} (h : kx_wf S) (hv : vp_in v 4) : kx_wf (sI S 17 i v) := by
  refine ⟨fun m hm => h.1 m hm, fun t ht => ?_, fun q hq => h.2.2 q hq⟩
  rw [kI_sI]
  by_cases e : t = i
  · rw [if_pos ⟨rfl, e⟩]; exact hv
  · rw [if_neg (fun z => e z.2)]; exact h.2.1 t ht
theorem kx_wf_q {S : kx_S} {q : Nat} {v : Int32} (h : kx_wf S) (hv : ∃ j, j ≤ 4 ∧ v = nI j) : kx_wf (sI S 9 q v) := by
  refine ⟨fun m hm => h.1 m hm, fun t ht => h.2.1 t ht, fun q2 hq => ?_⟩
  rw [kI_sI]
  by_cases e : q2 = q
  · rw [if_pos ⟨rfl, e⟩]; exact hv
  · rw [if_neg (fun z => e z.2)]; exact h.2.2 q2 hq
def kx_pi (out : Int32 × kx_S) (r : Int32) (u : kx_S) : Prop := out = (r, u) ∧ kx_wf u
def kx_ph (out : Int32 × kx_S) (r : Int32) (u : kx_S) : Prop := out = (r, u) ∧ kx_wf u ∧ (r = -1 ∨ vp_in r 8)
def kx_pl (out : Int64 × kx_S) (r : Int64) (u : kx_S) : Prop := out = (r, u) ∧ kx_wf u
def kx_pv (out : kx_S) (u : kx_S) : Prop := out = u ∧ kx_wf u
def kx_po (out : Option Nat × kx_S) (r : Option Nat) (u : kx_S) : Prop := out = (r, u) ∧ kx_wf u ∧ ∀ t, r = some t → t < 8
theorem kx_lt {i : Int32} {n : Nat} (h : vp_in i n) : i.toNatClampNeg < n := Nat.not_le.mp fun q => h (Or.inr q)
theorem kx_own {S : kx_S} (h : kx_wf S) {m : Nat} (hm : m < 4) : kI S 3 m = -1 ∨ vp_in (kI S 3 m) 8 := by
  rcases h.1 m hm with e | ⟨t, ht, e⟩
  · exact Or.inl e
  · exact Or.inr (by rw [e]; exact vp_in_nI ht (by decide))
theorem kk_inl {i : Int32} {n : Nat} (h : ¬ (i < 0 ∨ n ≤ i.toNatClampNeg)) : vp_in i n := h
theorem kk_own {r : Int32} (h : vp_in r 8) : r = -1 ∨ ∃ t, t < 8 ∧ r = nI t := Or.inr (vp_in_of h (by decide))
theorem kk_ge {r : Int32} (h : 0 ≤ r) : ¬ r < 0 := fun h2 => Int32.lt_irrefl (Int32.lt_of_lt_of_le h2 h)
theorem kk_stay {k B : Nat} (h : k < B) (hB : B < 2 ^ 31) : ¬ nI B ≤ nI k := nI_ge h hB
theorem kk_ne8 {k : Nat} (h : k < 8) : ¬ nI k = 8 := fun e => by
  have := (nI_eq (a := k) (b := 8) (by omega) (by omega)).mp e
  omega
theorem kk_tn {n : Int32} (h : ¬ n < 1) : n = nI n.toNatClampNeg := by
  have h0 : ¬ n < 0 := fun q => h (Int32.lt_of_lt_of_le q (by decide))
  obtain ⟨j, hj, e⟩ := nI_of h0
  rw [e, nI_clamp hj]
theorem kk_tx {n : Int32} {k : Nat} (h : ¬ n < 1) (hk : k = n.toNatClampNeg) : n ≤ nI k := by
  rw [hk, ← kk_tn h]; exact Int32.le_refl _
theorem kk_ts {n : Int32} {k : Nat} (hk : k < n.toNatClampNeg) : ¬ n ≤ nI k := by
  intro h
  have h0 : ¬ n < 0 := fun q => by
    have : n.toNatClampNeg = 0 := by
      have h1 := Int32.lt_iff_toInt_lt.mp q
      have h2 : (0 : Int32).toInt = 0 := by decide
      unfold Int32.toNatClampNeg
      omega
    omega
  obtain ⟨j, hj, e⟩ := nI_of h0
  rw [e, nI_clamp hj] at hk
  rw [e] at h
  exact nI_ge hk hj h
theorem kk_nb {x : Int32} (h : x = 0 ∨ x = 1) : narrow .boolean (.int x) = .int x := by rcases h with rfl | rfl <;> rfl
theorem kk_fb {x : Int32} (h : x = 0 ∨ x = 1) : fits .boolean (.int x) = true := by rcases h with rfl | rfl <;> rfl
theorem kk_q1 {q : Int32} (h : vp_in q 2) (h0 : ¬ q = 0) : q = 1 := by
  obtain ⟨j, hj, e⟩ := vp_in_of h (by decide)
  rcases (show j = 0 ∨ j = 1 by omega) with rfl | rfl
  · exact absurd e h0
  · exact e
theorem kx_sz3 {x : Int32} (h : ∃ j, j ≤ 4 ∧ x = nI j) (h0 : ¬ x = 0) (h1 : ¬ x = 1) (h2 : ¬ x = 2) (h4 : ¬ x = 4) : x = 3 := by
  obtain ⟨j, hj, e⟩ := h
  rcases (show j = 0 ∨ j = 1 ∨ j = 2 ∨ j = 3 ∨ j = 4 by omega) with rfl | rfl | rfl | rfl | rfl
  · exact absurd e h0
  · exact absurd e h1
  · exact absurd e h2
  · exact e
  · exact absurd e h4
theorem kx_sz4 {x : Int32} (h : ∃ j, j ≤ 4 ∧ x = nI j) (h1 : ¬ x = 1) (h2 : ¬ x = 2) (h3 : ¬ x = 3) (h0 : ¬ x = 0) : x = 4 := by
  obtain ⟨j, hj, e⟩ := h
  rcases (show j = 0 ∨ j = 1 ∨ j = 2 ∨ j = 3 ∨ j = 4 by omega) with rfl | rfl | rfl | rfl | rfl
  · exact absurd e h0
  · exact absurd e h1
  · exact absurd e h2
  · exact absurd e h3
  · exact e
theorem km_sz3 {x : Int32} (h : ∃ j, j < 4 ∧ x = nI j) (h0 : ¬ x = 0) (h1 : ¬ x = 1) (h2 : ¬ x = 2) : x = 3 := by
  obtain ⟨j, hj, e⟩ := h
  rcases (show j = 0 ∨ j = 1 ∨ j = 2 ∨ j = 3 by omega) with rfl | rfl | rfl | rfl
  · exact absurd e h0
  · exact absurd e h1
  · exact absurd e h2
  · exact e
theorem kk_c0 : (0 : Int32).toNatClampNeg = 0 := by decide
theorem kk_c1 : (1 : Int32).toNatClampNeg = 1 := by decide
theorem kk_c2 : (2 : Int32).toNatClampNeg = 2 := by decide
theorem kk_c3 : (3 : Int32).toNatClampNeg = 3 := by decide
theorem kk_c4 : (4 : Int32).toNatClampNeg = 4 := by decide
theorem kk_c5 : (5 : Int32).toNatClampNeg = 5 := by decide
theorem kk_c6 : (6 : Int32).toNatClampNeg = 6 := by decide
theorem kk_c7 : (7 : Int32).toNatClampNeg = 7 := by decide
theorem kk_tab {x : Int32} {lo : Int} (n : Nat) (h : ∀ j : Nat, j < n → ¬ x.toInt = lo + j) (hi : Int) (hhi : hi = lo + n - 1) : x.toInt < lo ∨ hi < x.toInt := by
  rcases Classical.em (x.toInt < lo ∨ hi < x.toInt) with q | q
  · exact q
  · have h1 := h (x.toInt - lo).toNat (by omega)
    omega
theorem kk_neI {x : Int32} {k : Int} (y : Int32) (hy : y.toInt = k) (h : ¬ x = y) : ¬ x.toInt = k := fun e => h (Int32.toInt_inj.mp (by rw [e, hy]))
section KX
variable {p : Program} {l : Launch} {e : Env} {R : Room} {s : State} {m : MethodId} {args : Array Value} {below : List Frame} {meth : Method} {c : Code} {H : Heap} {locs : List Loc} {cells slots : Nat} {Q : State → Prop}
variable {cc : ByteArray} {pc : Nat} {ls : Array Slot} {rest : List Value} {dC : Nat → ClassId} {dI : Nat → Nat → Nat} {ad : Nat → Nat} {cs : Nat → ClassId} {S : kx_S}
theorem kx_ldT (hx : p.tables.exec = Jvm.exec) (hb : c.code = cc) (hK : va_K (dC, dI) vwCl (kx_t cs) s) (hP : va_P (dC, dI) vwCl (kx_w ad cs S) H) {i : Int32} (hin : vp_in i 8) (hdg : decode cc pc = .ok (.aaload, 1))
    (kk : W p l e R s m args below meth c H locs cells slots Q (F0 m (pc + 1) ls (.ref (kx_ta ad i.toNatClampNeg) :: rest))) : W p l e R s m args below meth c H locs cells slots Q (F0 m pc ls (.int i :: .ref (ad 1) :: rest)) :=
  va_aldq hx hb hK hP 1 0 rfl rfl hin hdg (by rw [if_pos (kx_lt hin)]; exact kk)
theorem kx_ldTk (hx : p.tables.exec = Jvm.exec) (hb : c.code = cc) (hK : va_K (dC, dI) vwCl (kx_t cs) s) (hP : va_P (dC, dI) vwCl (kx_w ad cs S) H) {k : Nat} (hk : k < 8) (hdg : decode cc pc = .ok (.aaload, 1))
    (kk : W p l e R s m args below meth c H locs cells slots Q (F0 m (pc + 1) ls (.ref (kx_ta ad k) :: rest))) : W p l e R s m args below meth c H locs cells slots Q (F0 m pc ls (.int (nI k) :: .ref (ad 1) :: rest)) :=
  kx_ldT hx hb hK hP (vp_in_nI hk (by decide)) hdg (by rw [nI_clamp (by omega)]; exact kk)
theorem kx_ldQ (hx : p.tables.exec = Jvm.exec) (hb : c.code = cc) (hK : va_K (dC, dI) vwCl (kx_t cs) s) (hP : va_P (dC, dI) vwCl (kx_w ad cs S) H) {i : Int32} (hin : vp_in i 2) (hdg : decode cc pc = .ok (.aaload, 1))
    (kk : W p l e R s m args below meth c H locs cells slots Q (F0 m (pc + 1) ls (.ref (kx_qa ad i.toNatClampNeg) :: rest))) : W p l e R s m args below meth c H locs cells slots Q (F0 m pc ls (.int i :: .ref (ad 4) :: rest)) :=
  va_aldq hx hb hK hP 4 3 rfl rfl hin hdg (by rw [if_pos (kx_lt hin)]; exact kk)
theorem kx_gsize (hx : p.tables.exec = Jvm.exec) (hb : c.code = cc) {own : String} {index : Nat} {Ts : List Cond} (hts : ∀ w ∈ Ts, w.before args s = true) (hin : ∀ w ∈ u_ws R_Q T_Q 3, w ∈ Ts) (hown : s.vm.findClass own = some m.cls) (hK : va_K (dC, dI) vwCl (kx_t cs) s) (hP : va_P (dC, dI) vwCl (kx_w ad cs S) H) {q : Nat} (hq : q < 2) (hlink : (Cond.fieldLink own index R_Q (T_Q 2).2.1 (T_Q 2).2.2.1).before args s = true) (hdg : decode cc pc = .ok (.getfield index, 3))
    (kk : W p l e R s m args below meth c H locs cells slots Q (F0 m (pc + 3) ls (.int (kI S 9 q) :: rest))) : W p l e R s m args below meth c H locs cells slots Q (F0 m pc ls (.ref (kx_qa ad q) :: rest)) := by
  rcases (show q = 0 ∨ q = 1 by omega) with rfl | rfl
  · exact va_get (D := (dC, dI)) (ci := 0) (v := .int (kI S 9 0)) (C := R_Q) (T := T_Q) (N := 3) hx hb hts hin hown hK hP 5 rfl rfl 2 (by decide) hlink (fun _ h9 => h9) rfl hdg kk
  · exact va_get (D := (dC, dI)) (ci := 0) (v := .int (kI S 9 1)) (C := R_Q) (T := T_Q) (N := 3) hx hb hts hin hown hK hP 6 rfl rfl 2 (by decide) hlink (fun _ h9 => h9) rfl hdg kk
theorem kx_recvQ (hK : va_K (dC, dI) vwCl (kx_t cs) s) (hP : va_P (dC, dI) vwCl (kx_w ad cs S) H) {q : Nat} (hq : q < 2) : ∃ cell : Cell, H[kx_qa ad q]? = some cell ∧ cell.vm.isStatics = false ∧ s.vm.findClass R_Q = some cell.cls := by
  rcases (show q = 0 ∨ q = 1 by omega) with rfl | rfl
  · exact va_recv hK hP (ci := 0) (q0 := 5) rfl rfl
  · exact va_recv hK hP (ci := 0) (q0 := 6) rfl rfl
end KX
abbrev km_S : Type := Nat → Nat → Int32
def mI (S : km_S) (f i : Nat) : Int32 := S f i
def sM (S : km_S) (f i : Nat) (v : Int32) : km_S := fun a => if a = f then upd (S f) i v else S a
theorem mI_sM {S : km_S} {f i a b : Nat} {v : Int32} : mI (sM S f i v) a b = if a = f ∧ b = i then v else mI S a b := by
  unfold mI sM upd
  by_cases h : a = f
  · subst h
    by_cases h2 : b = i <;> simp [h2]
  · simp [h]
def km_w (ad : Nat → Nat) (cs : Nat → ClassId) (S : km_S) : va_W := [(ad 0, .inr (3, [.int (mI S 0 0), .int (mI S 1 0), .int (mI S 2 0), .int (mI S 3 0), .ref (ad 1), .ref (ad 2), .ref (ad 3), .ref (ad 4), .ref (ad 5), .ref (ad 6), .ref (ad 7), .ref (ad 8), .ref (ad 9), .ref (ad 10), .ref (ad 11), .ref (ad 12), .ref (ad 13), .ref (ad 14), .ref (ad 15), .ref (ad 16), .ref (ad 17), .ref (ad 18), .ref (ad 19)])), (ad 1, .inl (cs 1, 8, .inl (mI S 4))), (ad 2, .inl (cs 2, 8, .inl (mI S 5))), (ad 3, .inl (cs 3, 8, .inl (mI S 6))), (ad 4, .inl (cs 4, 8, .inl (mI S 7))), (ad 5, .inl (cs 5, 8, .inl (mI S 8))), (ad 6, .inl (cs 6, 8, .inl (mI S 9))), (ad 7, .inl (cs 7, 8, .inl (mI S 10))), (ad 8, .inl (cs 8, 8, .inl (mI S 11))), (ad 9, .inl (cs 9, 8, .inl (mI S 12))), (ad 10, .inl (cs 10, 8, .inl (mI S 13))), (ad 11, .inl (cs 11, 8, .inl (mI S 14))), (ad 12, .inl (cs 12, 8, .inl (mI S 15))), (ad 13, .inl (cs 13, 8, .inl (mI S 16))), (ad 14, .inl (cs 14, 4, .inl (mI S 17))), (ad 15, .inl (cs 15, 2, .inl (mI S 18))), (ad 16, .inl (cs 16, 2, .inl (mI S 19))), (ad 17, .inl (cs 17, 8, .inl (mI S 20))), (ad 18, .inl (cs 18, 8, .inl (mI S 21))), (ad 19, .inl (cs 19, 8, .inl (mI S 22)))]
def km_t (cs : Nat → ClassId) : List (ClassId × FieldType) := [(cs 1, .int), (cs 2, .int), (cs 3, .int), (cs 4, .int), (cs 5, .int), (cs 6, .int), (cs 7, .int), (cs 8, .int), (cs 9, .int), (cs 10, .int), (cs 11, .int), (cs 12, .boolean), (cs 13, .boolean), (cs 14, .int), (cs 15, .int), (cs 16, .int), (cs 17, .int), (cs 18, .int), (cs 19, .int)]
def km_inj (ad : Nat → Nat) : Prop := ∀ i j, i < 20 → j < 20 → ad i = ad j → i = j
def km_A (ad : Nat → Nat) (q : Nat) : Prop := ∃ k, k < 20 ∧ q = ad k
theorem km_len (ad : Nat → Nat) (cs : Nat → ClassId) (S : km_S) : (km_w ad cs S).length = 20 := rfl
theorem km_adr {ad : Nat → Nat} {cs : Nat → ClassId} {S : km_S} : ∀ (k : Nat) (q : Nat × va_E), (km_w ad cs S)[k]? = some q → k < 20 ∧ q.1 = ad k
  | 0, q, h => by have e := Option.some.inj h; subst e; exact ⟨by decide, rfl⟩
  | 1, q, h => by have e := Option.some.inj h; subst e; exact ⟨by decide, rfl⟩
  | 2, q, h => by have e := Option.some.inj h; subst e; exact ⟨by decide, rfl⟩
  | 3, q, h => by have e := Option.some.inj h; subst e; exact ⟨by decide, rfl⟩
  | 4, q, h => by have e := Option.some.inj h; subst e; exact ⟨by decide, rfl⟩
  | 5, q, h => by have e := Option.some.inj h; subst e; exact ⟨by decide, rfl⟩
  | 6, q, h => by have e := Option.some.inj h; subst e; exact ⟨by decide, rfl⟩
  | 7, q, h => by have e := Option.some.inj h; subst e; exact ⟨by decide, rfl⟩
  | 8, q, h => by have e := Option.some.inj h; subst e; exact ⟨by decide, rfl⟩
  | 9, q, h => by have e := Option.some.inj h; subst e; exact ⟨by decide, rfl⟩
  | 10, q, h => by have e := Option.some.inj h; subst e; exact ⟨by decide, rfl⟩
  | 11, q, h => by have e := Option.some.inj h; subst e; exact ⟨by decide, rfl⟩
  | 12, q, h => by have e := Option.some.inj h; subst e; exact ⟨by decide, rfl⟩
  | 13, q, h => by have e := Option.some.inj h; subst e; exact ⟨by decide, rfl⟩
  | 14, q, h => by have e := Option.some.inj h; subst e; exact ⟨by decide, rfl⟩
  | 15, q, h => by have e := Option.some.inj h; subst e; exact ⟨by decide, rfl⟩
  | 16, q, h => by have e := Option.some.inj h; subst e; exact ⟨by decide, rfl⟩
  | 17, q, h => by have e := Option.some.inj h; subst e; exact ⟨by decide, rfl⟩
  | 18, q, h => by have e := Option.some.inj h; subst e; exact ⟨by decide, rfl⟩
  | 19, q, h => by have e := Option.some.inj h; subst e; exact ⟨by decide, rfl⟩
  | k + 20, q, h => by have h2 := (List.getElem?_eq_some_iff.mp h).1; rw [km_len] at h2; omega
theorem km_D {ad : Nat → Nat} (hj : km_inj ad) {cs : Nat → ClassId} {S : km_S} : va_D (km_A ad) (km_w ad cs S) := by
  refine ⟨fun i j p q hi hj2 e => ?_, fun k q hk => ⟨k, (km_adr k q hk).1, (km_adr k q hk).2⟩⟩
  obtain ⟨h1, h2⟩ := km_adr i p hi
  obtain ⟨h3, h4⟩ := km_adr j q hj2
  exact hj i j h1 h3 (by rw [← h2, ← h4, e])
theorem km_u_time {D : va_G} {cl : List vw_C} {H : Heap} {ad : Nat → Nat} {cs : Nat → ClassId} {S : km_S} {v : Int32} (h : va_P D cl ((km_w ad cs S).set 0 (ad 0, .inr (3, [.int (mI S 0 0), .int (mI S 1 0), .int (mI S 2 0), .int (mI S 3 0), .ref (ad 1), .ref (ad 2), .ref (ad 3), .ref (ad 4), .ref (ad 5), .ref (ad 6), .ref (ad 7), .ref (ad 8), .ref (ad 9), .ref (ad 10), .ref (ad 11), .ref (ad 12), .ref (ad 13), .ref (ad 14), .ref (ad 15), .ref (ad 16), .ref (ad 17), .ref (ad 18), .ref (ad 19)].set 2 (.int v)))) H) : va_P D cl (km_w ad cs (sM S 2 0 v)) H := h
theorem km_u_stamps {D : va_G} {cl : List vw_C} {H : Heap} {ad : Nat → Nat} {cs : Nat → ClassId} {S : km_S} {v : Int32} (h : va_P D cl ((km_w ad cs S).set 0 (ad 0, .inr (3, [.int (mI S 0 0), .int (mI S 1 0), .int (mI S 2 0), .int (mI S 3 0), .ref (ad 1), .ref (ad 2), .ref (ad 3), .ref (ad 4), .ref (ad 5), .ref (ad 6), .ref (ad 7), .ref (ad 8), .ref (ad 9), .ref (ad 10), .ref (ad 11), .ref (ad 12), .ref (ad 13), .ref (ad 14), .ref (ad 15), .ref (ad 16), .ref (ad 17), .ref (ad 18), .ref (ad 19)].set 3 (.int v)))) H) : va_P D cl (km_w ad cs (sM S 3 0 v)) H := h
theorem km_u_state {D : va_G} {cl : List vw_C} {H : Heap} {ad : Nat → Nat} {cs : Nat → ClassId} {S : km_S} {i : Nat} {v : Int32} (h : va_P D cl ((km_w ad cs S).set 1 (ad 1, .inl (cs 1, 8, .inl (upd (mI S 4) i v)))) H) : va_P D cl (km_w ad cs (sM S 4 i v)) H := h
theorem km_u_base {D : va_G} {cl : List vw_C} {H : Heap} {ad : Nat → Nat} {cs : Nat → ClassId} {S : km_S} {i : Nat} {v : Int32} (h : va_P D cl ((km_w ad cs S).set 2 (ad 2, .inl (cs 2, 8, .inl (upd (mI S 5) i v)))) H) : va_P D cl (km_w ad cs (sM S 5 i v)) H := h
theorem km_u_stamp {D : va_G} {cl : List vw_C} {H : Heap} {ad : Nat → Nat} {cs : Nat → ClassId} {S : km_S} {i : Nat} {v : Int32} (h : va_P D cl ((km_w ad cs S).set 3 (ad 3, .inl (cs 3, 8, .inl (upd (mI S 6) i v)))) H) : va_P D cl (km_w ad cs (sM S 6 i v)) H := h
theorem km_u_used {D : va_G} {cl : List vw_C} {H : Heap} {ad : Nat → Nat} {cs : Nat → ClassId} {S : km_S} {i : Nat} {v : Int32} (h : va_P D cl ((km_w ad cs S).set 4 (ad 4, .inl (cs 4, 8, .inl (upd (mI S 7) i v)))) H) : va_P D cl (km_w ad cs (sM S 7 i v)) H := h
theorem km_u_on {D : va_G} {cl : List vw_C} {H : Heap} {ad : Nat → Nat} {cs : Nat → ClassId} {S : km_S} {i : Nat} {v : Int32} (h : va_P D cl ((km_w ad cs S).set 5 (ad 5, .inl (cs 5, 8, .inl (upd (mI S 8) i v)))) H) : va_P D cl (km_w ad cs (sM S 8 i v)) H := h
theorem km_u_since {D : va_G} {cl : List vw_C} {H : Heap} {ad : Nat → Nat} {cs : Nat → ClassId} {S : km_S} {i : Nat} {v : Int32} (h : va_P D cl ((km_w ad cs S).set 6 (ad 6, .inl (cs 6, 8, .inl (upd (mI S 9) i v)))) H) : va_P D cl (km_w ad cs (sM S 9 i v)) H := h
theorem km_u_deadline {D : va_G} {cl : List vw_C} {H : Heap} {ad : Nat → Nat} {cs : Nat → ClassId} {S : km_S} {i : Nat} {v : Int32} (h : va_P D cl ((km_w ad cs S).set 7 (ad 7, .inl (cs 7, 8, .inl (upd (mI S 10) i v)))) H) : va_P D cl (km_w ad cs (sM S 10 i v)) H := h
theorem km_u_result {D : va_G} {cl : List vw_C} {H : Heap} {ad : Nat → Nat} {cs : Nat → ClassId} {S : km_S} {i : Nat} {v : Int32} (h : va_P D cl ((km_w ad cs S).set 8 (ad 8, .inl (cs 8, 8, .inl (upd (mI S 11) i v)))) H) : va_P D cl (km_w ad cs (sM S 11 i v)) H := h
theorem km_u_mind {D : va_G} {cl : List vw_C} {H : Heap} {ad : Nat → Nat} {cs : Nat → ClassId} {S : km_S} {i : Nat} {v : Int32} (h : va_P D cl ((km_w ad cs S).set 9 (ad 9, .inl (cs 9, 8, .inl (upd (mI S 12) i v)))) H) : va_P D cl (km_w ad cs (sM S 12 i v)) H := h
theorem km_u_rank {D : va_G} {cl : List vw_C} {H : Heap} {ad : Nat → Nat} {cs : Nat → ClassId} {S : km_S} {i : Nat} {v : Int32} (h : va_P D cl ((km_w ad cs S).set 10 (ad 10, .inl (cs 10, 8, .inl (upd (mI S 13) i v)))) H) : va_P D cl (km_w ad cs (sM S 13 i v)) H := h
theorem km_u_value {D : va_G} {cl : List vw_C} {H : Heap} {ad : Nat → Nat} {cs : Nat → ClassId} {S : km_S} {i : Nat} {v : Int32} (h : va_P D cl ((km_w ad cs S).set 11 (ad 11, .inl (cs 11, 8, .inl (upd (mI S 14) i v)))) H) : va_P D cl (km_w ad cs (sM S 14 i v)) H := h
theorem km_u_sliced {D : va_G} {cl : List vw_C} {H : Heap} {ad : Nat → Nat} {cs : Nat → ClassId} {S : km_S} {i : Nat} {v : Int32} (h : va_P D cl ((km_w ad cs S).set 12 (ad 12, .inl (cs 12, 8, .inl (upd (mI S 15) i v)))) H) : va_P D cl (km_w ad cs (sM S 15 i v)) H := h
theorem km_u_retakes {D : va_G} {cl : List vw_C} {H : Heap} {ad : Nat → Nat} {cs : Nat → ClassId} {S : km_S} {i : Nat} {v : Int32} (h : va_P D cl ((km_w ad cs S).set 13 (ad 13, .inl (cs 13, 8, .inl (upd (mI S 16) i v)))) H) : va_P D cl (km_w ad cs (sM S 16 i v)) H := h
theorem km_u_owns {D : va_G} {cl : List vw_C} {H : Heap} {ad : Nat → Nat} {cs : Nat → ClassId} {S : km_S} {i : Nat} {v : Int32} (h : va_P D cl ((km_w ad cs S).set 14 (ad 14, .inl (cs 14, 4, .inl (upd (mI S 17) i v)))) H) : va_P D cl (km_w ad cs (sM S 17 i v)) H := h
theorem km_u_count {D : va_G} {cl : List vw_C} {H : Heap} {ad : Nat → Nat} {cs : Nat → ClassId} {S : km_S} {i : Nat} {v : Int32} (h : va_P D cl ((km_w ad cs S).set 15 (ad 15, .inl (cs 15, 2, .inl (upd (mI S 18) i v)))) H) : va_P D cl (km_w ad cs (sM S 18 i v)) H := h
theorem km_u_messages {D : va_G} {cl : List vw_C} {H : Heap} {ad : Nat → Nat} {cs : Nat → ClassId} {S : km_S} {i : Nat} {v : Int32} (h : va_P D cl ((km_w ad cs S).set 16 (ad 16, .inl (cs 16, 2, .inl (upd (mI S 19) i v)))) H) : va_P D cl (km_w ad cs (sM S 19 i v)) H := h
theorem km_u_messageRank {D : va_G} {cl : List vw_C} {H : Heap} {ad : Nat → Nat} {cs : Nat → ClassId} {S : km_S} {i : Nat} {v : Int32} (h : va_P D cl ((km_w ad cs S).set 17 (ad 17, .inl (cs 17, 8, .inl (upd (mI S 20) i v)))) H) : va_P D cl (km_w ad cs (sM S 20 i v)) H := h
theorem km_u_messageValue {D : va_G} {cl : List vw_C} {H : Heap} {ad : Nat → Nat} {cs : Nat → ClassId} {S : km_S} {i : Nat} {v : Int32} (h : va_P D cl ((km_w ad cs S).set 18 (ad 18, .inl (cs 18, 8, .inl (upd (mI S 21) i v)))) H) : va_P D cl (km_w ad cs (sM S 21 i v)) H := h
theorem km_u_urgent {D : va_G} {cl : List vw_C} {H : Heap} {ad : Nat → Nat} {cs : Nat → ClassId} {S : km_S} {i : Nat} {v : Int32} (h : va_P D cl ((km_w ad cs S).set 19 (ad 19, .inl (cs 19, 8, .inl (upd (mI S 22) i v)))) H) : va_P D cl (km_w ad cs (sM S 22 i v)) H := h
def km_wf (S : km_S) : Prop := (∀ m, m < 4 → mI S 17 m = -1 ∨ ∃ t, t < 8 ∧ mI S 17 m = nI t) ∧ (∀ t, t < 8 → vp_in (mI S 12 t) 4) ∧ ∀ q, q < 2 → ∃ j, j ≤ 4 ∧ mI S 19 q = nI j
theorem km_wf_I {S : km_S} {f i : Nat} {v : Int32} (h : km_wf S) (hf : f ≠ 17 ∧ f ≠ 12 ∧ f ≠ 19) : km_wf (sM S f i v) := by
  refine ⟨fun m hm => ?_, fun t ht => ?_, fun q hq => ?_⟩
  · rw [mI_sM, if_neg (fun e => hf.1 e.1.symm)]; exact h.1 m hm
  · rw [mI_sM, if_neg (fun e => hf.2.1 e.1.symm)]; exact h.2.1 t ht
  · rw [mI_sM, if_neg (fun e => hf.2.2 e.1.symm)]; exact h.2.2 q hq
theorem km_wf_o {S : km_S} {i : Nat} {v : Int32} (h : km_wf S) (hv : v = -1 ∨ ∃ t, t < 8 ∧ v = nI t) : km_wf (sM S 17 i v) := by
  refine ⟨fun m hm => ?_, fun t ht => h.2.1 t ht, fun q hq => h.2.2 q hq⟩
  rw [mI_sM]
  by_cases e : m = i
  · rw [if_pos ⟨rfl, e⟩]; exact hv
  · rw [if_neg (fun z => e z.2)]; exact h.1 m hm
theorem km_wf_m {S : km_S} {i : Nat} {v : Int32} (h : km_wf S) (hv : vp_in v 4) : km_wf (sM S 12 i v) := by
  refine ⟨fun m hm => h.1 m hm, fun t ht => ?_, fun q hq => h.2.2 q hq⟩
  rw [mI_sM]
  by_cases e : t = i
  · rw [if_pos ⟨rfl, e⟩]; exact hv
  · rw [if_neg (fun z => e z.2)]; exact h.2.1 t ht
theorem km_wf_q {S : km_S} {q : Nat} {v : Int32} (h : km_wf S) (hv : ∃ j, j ≤ 4 ∧ v = nI j) : km_wf (sM S 19 q v) := by
  refine ⟨fun m hm => h.1 m hm, fun t ht => h.2.1 t ht, fun q2 hq => ?_⟩
  rw [mI_sM]
  by_cases e : q2 = q
  · rw [if_pos ⟨rfl, e⟩]; exact hv
  · rw [if_neg (fun z => e z.2)]; exact h.2.2 q2 hq
def km_pi (out : Int32 × km_S) (r : Int32) (u : km_S) : Prop := out = (r, u) ∧ km_wf u
def km_pr (out : Int32 × km_S) (r : Int32) (u : km_S) : Prop := out = (r, u) ∧ km_wf u ∧ (r < 0 ∨ vp_in r 8)
def km_pl (out : Int64 × km_S) (r : Int64) (u : km_S) : Prop := out = (r, u) ∧ km_wf u
def km_pv (out : km_S) (u : km_S) : Prop := out = u ∧ km_wf u
theorem km_own8 {S : km_S} (h : km_wf S) {i : Int32} (hi : vp_in i 4) (h0 : ¬ mI S 17 i.toNatClampNeg < 0) : vp_in (mI S 17 i.toNatClampNeg) 8 := by
  rcases h.1 _ (kx_lt hi) with e | ⟨t, ht, e⟩
  · rw [e] at h0; exact absurd (by decide) h0
  · rw [e]; exact vp_in_nI ht (by decide)
theorem km_mdec {S : km_S} (h : km_wf S) {q : Nat} (hq : q < 2) (h0 : ¬ mI S 19 q = 0) : ∃ j, j ≤ 4 ∧ mI S 19 q - 1 = nI j := by
  obtain ⟨j, hj, e⟩ := h.2.2 q hq
  rw [e] at h0 ⊢
  rcases (show j = 0 ∨ j = 1 ∨ j = 2 ∨ j = 3 ∨ j = 4 by omega) with rfl | rfl | rfl | rfl | rfl
  · exact absurd rfl h0
  · exact ⟨0, by decide, by decide⟩
  · exact ⟨1, by decide, by decide⟩
  · exact ⟨2, by decide, by decide⟩
  · exact ⟨3, by decide, by decide⟩
end
section
/-! the start of the two objects; rows for constructors -/
def kx_0 (a b : Int32) : kx_S := (fun f i => if f = 0 then a else if f = 1 then b else if f = 3 then upd (upd (upd (upd (fun _ => 0) 0 (-1)) 1 (-1)) 2 (-1)) 3 (-1) i else if f = 11 then 1 else if f = 12 then 1 else 0, fun f _ => if f = 1 then 1000000000000 else 0)
def km_0 (a b : Int32) : km_S := fun f i => if f = 0 then a else if f = 1 then b else if f = 17 then upd (upd (upd (upd (fun _ => 0) 0 (-1)) 1 (-1)) 2 (-1)) 3 (-1) i else 0
theorem kk_D1 {A : Nat → Prop} {a : Nat} {e : va_E} (h : A a) : va_D A [(a, e)] := by
  refine ⟨fun i j p q hi hj _ => ?_, fun k q hk => ?_⟩
  · have h1 := (List.getElem?_eq_some_iff.mp hi).1
    have h2 := (List.getElem?_eq_some_iff.mp hj).1
    simp at h1 h2
    omega
  · cases k with
    | zero => cases hk; exact h
    | succ k => simp at hk
theorem kk_last {D : va_G} {cl : List vw_C} {A : Nat → Prop} {ws : va_W} {a : Nat} {e e2 : va_E} {H H1 : Heap} (hP : va_P D cl (ws ++ [(a, e)]) H) (hD : va_D A (ws ++ [(a, e)])) (hk : ∀ q : Nat, q < H.size → ¬ q = a → H1[q]? = H[q]?) (h1 : va_P D cl [(a, e2)] H1) : va_P D cl (ws ++ [(a, e2)]) H1 := by
  refine va_P.app (fun k q hq => ?_) h1
  have hl := (List.getElem?_eq_some_iff.mp hq).1
  have h2 : (ws ++ [(a, e)])[k]? = some q := by rw [List.getElem?_append_left hl]; exact hq
  refine (hP k q h2).kept (hk q.1 (hP k q h2).lt (fun z => ?_))
  have h3 : (ws ++ [(a, e)])[ws.length]? = some (a, e) := by simp
  have := hD.1 k ws.length q (a, e) h2 h3 z
  omega
theorem kk_lastD {A : Nat → Prop} {ws : va_W} {a : Nat} {e e2 : va_E} (hD : va_D A (ws ++ [(a, e)])) : va_D A (ws ++ [(a, e2)]) := by
  have h := hD.set (p := ws.length) (a := a) (e0 := e) (e := e2) (by simp)
  have e : (ws ++ [(a, e)]).set ws.length (a, e2) = ws ++ [(a, e2)] := by
    rw [List.set_append_right _ _ (Nat.le_refl _)]
    simp
  rw [e] at h
  exact h
theorem kk_blind2 {D : va_G} {cl : List vw_C} {tys : List (ClassId × FieldType)} {ws : va_W} {av : List Value} {sz : Nat} : FrameBlind (va_Pc av (fun U => U.heap.size = sz ∧ va_P D cl ws U.heap ∧ va_K D cl tys U)) := fun a U g mk q => by
  obtain ⟨q0, q1, qP, qK⟩ := q
  exact ⟨q0, q1, qP, va_K.moved (u := U) (U := U.calling g mk a) (Vm.Alike.refl U.vm) qK⟩
def xf_init (slice ceiling : Int32) : kx_S :=
  kx_0 (if 1 < (if slice < 20 then slice else 20) then (if slice < 20 then slice else 20) else 1) (if 1 < (if ceiling < 31 then ceiling else 31) then (if ceiling < 31 then ceiling else 31) else 1)
def mf_init (slice ceiling : Int32) : km_S :=
  if 1 ≤ slice then
    if slice ≤ 20 then
      if 1 ≤ ceiling then
        if ceiling ≤ 31 then
          km_0 slice ceiling
        else
          km_0 slice 31
      else
        km_0 slice 1
    else
      if 1 ≤ ceiling then
        if ceiling ≤ 31 then
          km_0 20 ceiling
        else
          km_0 20 31
      else
        km_0 20 1
  else
    if 1 ≤ ceiling then
      if ceiling ≤ 31 then
        km_0 1 ceiling
      else
        km_0 1 31
    else
      km_0 1 1
set_option maxHeartbeats 4000000 in
set_option maxRecDepth 100000 in
theorem xc_T_init (l : Launch) (dC : Nat → ClassId) (dI : Nat → Nat → Nat) (h0 : Nat) (n : Int32) : Met l y_T_init ws_T_init ({ frames := 1, cells := 0, slots := 0, locals := 20 }) (kk_Pc (dC, dI) vwCl [] [(h0, .inr (1, [.int 0, .int 0, .int 0, .int 0, .int 0, .int 0, .int 0, .long 0, .int 0, .long 0, .int 0, .int 0, .int 0, .int 0]))] [.ref h0, .int n]) (va_Qv (fun (_ : Unit) => True) (fun _ t => va_P (dC, dI) vwCl [(h0, .inr (1, [.int n, .int 0, .int 1, .int 1, .int 0, .int 0, .int 0, .long 0, .int 0, .long 1000000000000, .int 0, .int 0, .int 0, .int 0]))] t.heap ∧ va_K (dC, dI) vwCl [] t) (fun q => q = h0)) 0 0 (fun q => q = h0) := by
  refine Met.ofW (cc := b_T_init) (maxL := 2) (ret := none) (by decide) rfl ?_
  intro p e s m args below meth c s₁ B hml hv
  obtain ⟨rfl, hP, hK⟩ := hv
  have hx := B.exec
  have hb := B.bytes
  have hr := B.returns
  have hts := atoms_spec (ws := ws_T_init) B.pre
  have hown : s.vm.findClass R_T = some m.cls := findClass_of_methodNamed B.named
  have hlocks := B.notSynchronized
  have hin : meth.name = "<init>" := (name_of_methodNamed B.named B.method).1
  have hD : va_D (fun q => q = h0) [(h0, .inr (1, [.int 0, .int 0, .int 0, .int 0, .int 0, .int 0, .int 0, .long 0, .int 0, .long 0, .int 0, .int 0, .int 0, .int 0]))] := kk_D1 rfl
  generalize hAe : (fun q : Nat => q = h0) = A at hD ⊢
  have hS : va_S A s.heap s.heap [] := va_S.rf
  have hl := lv_entry ([.ref h0, .int n]) (n := 2) (Nat.le_of_ble_eq_true rfl)
  rw [lg_entry_eq]
  generalize (lg_sl ([.ref h0, .int n]) ++ List.replicate (2 - (lg_sl ([.ref h0, .int n])).length) Slot.unset).toArray = ls at hl ⊢
  have hl : lv_has ls 2 [(0, .ref h0), (1, .int n)] := hl
  refine lv_aload_n hx hb dT_init_0 rfl (lv_at hl 0 rfl) ?_
  refine W.objInit hx hb hown (hts _ (List.mem_cons_of_mem _ wd_28)) (hts _ (List.mem_cons_of_mem _ wd_12)) (hts _ (List.mem_cons_of_mem _ wd_13)) rfl (by rw [hml]; exact hl.1) rfl dT_init_1 (Nat.le_of_ble_eq_true rfl) (Nat.le_of_ble_eq_true rfl) ?_
  refine W.eq (g2 := F0 m 4 ls []) rfl ?_
  refine lv_aload_n hx hb dT_init_4 rfl (lv_at hl 0 rfl) ?_
  refine lv_iconst (v := 0) hx hb dT_init_5 (by decide) ?_
  refine va_put (D := (dC, dI)) (ci := 1) (v := .int 0) (ty := .int) (C := R_T) (T := T_T) (N := 14) hx hb hts uw_T ty_T ty_T_ok nm_T hown hK hP hD hS 0 rfl rfl 1 (by decide) (hts _ (List.mem_cons_of_mem _ wd_32)) (fun _ h9 => h9) rfl (by decide +kernel) rfl rfl (Nat.le_of_ble_eq_true rfl) dT_init_6 (fun H locs hP hD hS => ?_)
  have hP : va_P (dC, dI) vwCl [(h0, .inr (1, [.int 0, .int 0, .int 0, .int 0, .int 0, .int 0, .int 0, .long 0, .int 0, .long 0, .int 0, .int 0, .int 0, .int 0]))] H := hP
  have hD : va_D A [(h0, .inr (1, [.int 0, .int 0, .int 0, .int 0, .int 0, .int 0, .int 0, .long 0, .int 0, .long 0, .int 0, .int 0, .int 0, .int 0]))] := hD
  refine lv_aload_n hx hb dT_init_9 rfl (lv_at hl 0 rfl) ?_
  refine lv_iconst (v := 1) hx hb dT_init_10 (by decide) ?_
  refine va_put (D := (dC, dI)) (ci := 1) (v := .int 1) (ty := .int) (C := R_T) (T := T_T) (N := 14) hx hb hts uw_T ty_T ty_T_ok nm_T hown hK hP hD hS 0 rfl rfl 2 (by decide) (hts _ (List.mem_cons_of_mem _ wd_34)) (fun _ h9 => h9) rfl (by decide +kernel) rfl rfl (Nat.le_of_ble_eq_true rfl) dT_init_11 (fun H locs hP hD hS => ?_)
  have hP : va_P (dC, dI) vwCl [(h0, .inr (1, [.int 0, .int 0, .int 1, .int 0, .int 0, .int 0, .int 0, .long 0, .int 0, .long 0, .int 0, .int 0, .int 0, .int 0]))] H := hP
  have hD : va_D A [(h0, .inr (1, [.int 0, .int 0, .int 1, .int 0, .int 0, .int 0, .int 0, .long 0, .int 0, .long 0, .int 0, .int 0, .int 0, .int 0]))] := hD
  refine lv_aload_n hx hb dT_init_14 rfl (lv_at hl 0 rfl) ?_
  refine lv_iconst (v := 1) hx hb dT_init_15 (by decide) ?_
  refine va_put (D := (dC, dI)) (ci := 1) (v := .int 1) (ty := .int) (C := R_T) (T := T_T) (N := 14) hx hb hts uw_T ty_T ty_T_ok nm_T hown hK hP hD hS 0 rfl rfl 3 (by decide) (hts _ (List.mem_cons_of_mem _ wd_36)) (fun _ h9 => h9) rfl (by decide +kernel) rfl rfl (Nat.le_of_ble_eq_true rfl) dT_init_16 (fun H locs hP hD hS => ?_)
  have hP : va_P (dC, dI) vwCl [(h0, .inr (1, [.int 0, .int 0, .int 1, .int 1, .int 0, .int 0, .int 0, .long 0, .int 0, .long 0, .int 0, .int 0, .int 0, .int 0]))] H := hP
  have hD : va_D A [(h0, .inr (1, [.int 0, .int 0, .int 1, .int 1, .int 0, .int 0, .int 0, .long 0, .int 0, .long 0, .int 0, .int 0, .int 0, .int 0]))] := hD
  refine lv_aload_n hx hb dT_init_19 rfl (lv_at hl 0 rfl) ?_
  refine lv_iconst (v := 0) hx hb dT_init_20 (by decide) ?_
  refine va_put (D := (dC, dI)) (ci := 1) (v := .int 0) (ty := .boolean) (C := R_T) (T := T_T) (N := 14) hx hb hts uw_T ty_T ty_T_ok nm_T hown hK hP hD hS 0 rfl rfl 4 (by decide) (hts _ (List.mem_cons_of_mem _ wd_38)) (fun _ h9 => h9) rfl (by decide +kernel) rfl rfl (Nat.le_of_ble_eq_true rfl) dT_init_21 (fun H locs hP hD hS => ?_)
  have hP : va_P (dC, dI) vwCl [(h0, .inr (1, [.int 0, .int 0, .int 1, .int 1, .int 0, .int 0, .int 0, .long 0, .int 0, .long 0, .int 0, .int 0, .int 0, .int 0]))] H := hP
  have hD : va_D A [(h0, .inr (1, [.int 0, .int 0, .int 1, .int 1, .int 0, .int 0, .int 0, .long 0, .int 0, .long 0, .int 0, .int 0, .int 0, .int 0]))] := hD
  refine lv_aload_n hx hb dT_init_24 rfl (lv_at hl 0 rfl) ?_
  refine lv_iconst (v := 0) hx hb dT_init_25 (by decide) ?_
  refine va_put (D := (dC, dI)) (ci := 1) (v := .int 0) (ty := .int) (C := R_T) (T := T_T) (N := 14) hx hb hts uw_T ty_T ty_T_ok nm_T hown hK hP hD hS 0 rfl rfl 5 (by decide) (hts _ (List.mem_cons_of_mem _ wd_40)) (fun _ h9 => h9) rfl (by decide +kernel) rfl rfl (Nat.le_of_ble_eq_true rfl) dT_init_26 (fun H locs hP hD hS => ?_)
  have hP : va_P (dC, dI) vwCl [(h0, .inr (1, [.int 0, .int 0, .int 1, .int 1, .int 0, .int 0, .int 0, .long 0, .int 0, .long 0, .int 0, .int 0, .int 0, .int 0]))] H := hP
  have hD : va_D A [(h0, .inr (1, [.int 0, .int 0, .int 1, .int 1, .int 0, .int 0, .int 0, .long 0, .int 0, .long 0, .int 0, .int 0, .int 0, .int 0]))] := hD
  refine lv_aload_n hx hb dT_init_29 rfl (lv_at hl 0 rfl) ?_
  refine lv_iconst (v := 0) hx hb dT_init_30 (by decide) ?_
  refine va_put (D := (dC, dI)) (ci := 1) (v := .int 0) (ty := .int) (C := R_T) (T := T_T) (N := 14) hx hb hts uw_T ty_T ty_T_ok nm_T hown hK hP hD hS 0 rfl rfl 6 (by decide) (hts _ (List.mem_cons_of_mem _ wd_42)) (fun _ h9 => h9) rfl (by decide +kernel) rfl rfl (Nat.le_of_ble_eq_true rfl) dT_init_31 (fun H locs hP hD hS => ?_)
  have hP : va_P (dC, dI) vwCl [(h0, .inr (1, [.int 0, .int 0, .int 1, .int 1, .int 0, .int 0, .int 0, .long 0, .int 0, .long 0, .int 0, .int 0, .int 0, .int 0]))] H := hP
  have hD : va_D A [(h0, .inr (1, [.int 0, .int 0, .int 1, .int 1, .int 0, .int 0, .int 0, .long 0, .int 0, .long 0, .int 0, .int 0, .int 0, .int 0]))] := hD
  refine lv_aload_n hx hb dT_init_34 rfl (lv_at hl 0 rfl) ?_
  refine lv_lconst (v := 0) hx hb dT_init_35 (by decide) ?_
  refine va_put (D := (dC, dI)) (ci := 1) (v := .long 0) (ty := .long) (C := R_T) (T := T_T) (N := 14) hx hb hts uw_T ty_T ty_T_ok nm_T hown hK hP hD hS 0 rfl rfl 7 (by decide) (hts _ (List.mem_cons_of_mem _ wd_44)) (fun _ h9 => h9) rfl (by decide +kernel) rfl rfl (Nat.le_of_ble_eq_true rfl) dT_init_36 (fun H locs hP hD hS => ?_)
  have hP : va_P (dC, dI) vwCl [(h0, .inr (1, [.int 0, .int 0, .int 1, .int 1, .int 0, .int 0, .int 0, .long 0, .int 0, .long 0, .int 0, .int 0, .int 0, .int 0]))] H := hP
  have hD : va_D A [(h0, .inr (1, [.int 0, .int 0, .int 1, .int 1, .int 0, .int 0, .int 0, .long 0, .int 0, .long 0, .int 0, .int 0, .int 0, .int 0]))] := hD
  refine lv_aload_n hx hb dT_init_39 rfl (lv_at hl 0 rfl) ?_
  refine lv_iconst (v := 0) hx hb dT_init_40 (by decide) ?_
  refine va_put (D := (dC, dI)) (ci := 1) (v := .int 0) (ty := .int) (C := R_T) (T := T_T) (N := 14) hx hb hts uw_T ty_T ty_T_ok nm_T hown hK hP hD hS 0 rfl rfl 8 (by decide) (hts _ (List.mem_cons_of_mem _ wd_46)) (fun _ h9 => h9) rfl (by decide +kernel) rfl rfl (Nat.le_of_ble_eq_true rfl) dT_init_41 (fun H locs hP hD hS => ?_)
  have hP : va_P (dC, dI) vwCl [(h0, .inr (1, [.int 0, .int 0, .int 1, .int 1, .int 0, .int 0, .int 0, .long 0, .int 0, .long 0, .int 0, .int 0, .int 0, .int 0]))] H := hP
  have hD : va_D A [(h0, .inr (1, [.int 0, .int 0, .int 1, .int 1, .int 0, .int 0, .int 0, .long 0, .int 0, .long 0, .int 0, .int 0, .int 0, .int 0]))] := hD
  refine lv_aload_n hx hb dT_init_44 rfl (lv_at hl 0 rfl) ?_
  refine lv_ldc2 (v := 1000000000000) hx hb hown (hts _ (List.mem_cons_of_mem _ wd_29)) dT_init_45 ?_
  refine va_put (D := (dC, dI)) (ci := 1) (v := .long 1000000000000) (ty := .long) (C := R_T) (T := T_T) (N := 14) hx hb hts uw_T ty_T ty_T_ok nm_T hown hK hP hD hS 0 rfl rfl 9 (by decide) (hts _ (List.mem_cons_of_mem _ wd_48)) (fun _ h9 => h9) rfl (by decide +kernel) rfl rfl (Nat.le_of_ble_eq_true rfl) dT_init_48 (fun H locs hP hD hS => ?_)
  have hP : va_P (dC, dI) vwCl [(h0, .inr (1, [.int 0, .int 0, .int 1, .int 1, .int 0, .int 0, .int 0, .long 0, .int 0, .long 1000000000000, .int 0, .int 0, .int 0, .int 0]))] H := hP
  have hD : va_D A [(h0, .inr (1, [.int 0, .int 0, .int 1, .int 1, .int 0, .int 0, .int 0, .long 0, .int 0, .long 1000000000000, .int 0, .int 0, .int 0, .int 0]))] := hD
  refine lv_aload_n hx hb dT_init_51 rfl (lv_at hl 0 rfl) ?_
  refine lv_iconst (v := 0) hx hb dT_init_52 (by decide) ?_
  refine va_put (D := (dC, dI)) (ci := 1) (v := .int 0) (ty := .int) (C := R_T) (T := T_T) (N := 14) hx hb hts uw_T ty_T ty_T_ok nm_T hown hK hP hD hS 0 rfl rfl 10 (by decide) (hts _ (List.mem_cons_of_mem _ wd_50)) (fun _ h9 => h9) rfl (by decide +kernel) rfl rfl (Nat.le_of_ble_eq_true rfl) dT_init_53 (fun H locs hP hD hS => ?_)
  have hP : va_P (dC, dI) vwCl [(h0, .inr (1, [.int 0, .int 0, .int 1, .int 1, .int 0, .int 0, .int 0, .long 0, .int 0, .long 1000000000000, .int 0, .int 0, .int 0, .int 0]))] H := hP
  have hD : va_D A [(h0, .inr (1, [.int 0, .int 0, .int 1, .int 1, .int 0, .int 0, .int 0, .long 0, .int 0, .long 1000000000000, .int 0, .int 0, .int 0, .int 0]))] := hD
  refine lv_aload_n hx hb dT_init_56 rfl (lv_at hl 0 rfl) ?_
  refine lv_iconst (v := 0) hx hb dT_init_57 (by decide) ?_
  refine va_put (D := (dC, dI)) (ci := 1) (v := .int 0) (ty := .int) (C := R_T) (T := T_T) (N := 14) hx hb hts uw_T ty_T ty_T_ok nm_T hown hK hP hD hS 0 rfl rfl 11 (by decide) (hts _ (List.mem_cons_of_mem _ wd_52)) (fun _ h9 => h9) rfl (by decide +kernel) rfl rfl (Nat.le_of_ble_eq_true rfl) dT_init_58 (fun H locs hP hD hS => ?_)
  have hP : va_P (dC, dI) vwCl [(h0, .inr (1, [.int 0, .int 0, .int 1, .int 1, .int 0, .int 0, .int 0, .long 0, .int 0, .long 1000000000000, .int 0, .int 0, .int 0, .int 0]))] H := hP
  have hD : va_D A [(h0, .inr (1, [.int 0, .int 0, .int 1, .int 1, .int 0, .int 0, .int 0, .long 0, .int 0, .long 1000000000000, .int 0, .int 0, .int 0, .int 0]))] := hD
  refine lv_aload_n hx hb dT_init_61 rfl (lv_at hl 0 rfl) ?_
  refine lv_iconst (v := 0) hx hb dT_init_62 (by decide) ?_
  refine va_put (D := (dC, dI)) (ci := 1) (v := .int 0) (ty := .int) (C := R_T) (T := T_T) (N := 14) hx hb hts uw_T ty_T ty_T_ok nm_T hown hK hP hD hS 0 rfl rfl 12 (by decide) (hts _ (List.mem_cons_of_mem _ wd_54)) (fun _ h9 => h9) rfl (by decide +kernel) rfl rfl (Nat.le_of_ble_eq_true rfl) dT_init_63 (fun H locs hP hD hS => ?_)
  have hP : va_P (dC, dI) vwCl [(h0, .inr (1, [.int 0, .int 0, .int 1, .int 1, .int 0, .int 0, .int 0, .long 0, .int 0, .long 1000000000000, .int 0, .int 0, .int 0, .int 0]))] H := hP
  have hD : va_D A [(h0, .inr (1, [.int 0, .int 0, .int 1, .int 1, .int 0, .int 0, .int 0, .long 0, .int 0, .long 1000000000000, .int 0, .int 0, .int 0, .int 0]))] := hD
  refine lv_aload_n hx hb dT_init_66 rfl (lv_at hl 0 rfl) ?_
  refine lv_iconst (v := 0) hx hb dT_init_67 (by decide) ?_
  refine va_put (D := (dC, dI)) (ci := 1) (v := .int 0) (ty := .int) (C := R_T) (T := T_T) (N := 14) hx hb hts uw_T ty_T ty_T_ok nm_T hown hK hP hD hS 0 rfl rfl 13 (by decide) (hts _ (List.mem_cons_of_mem _ wd_56)) (fun _ h9 => h9) rfl (by decide +kernel) rfl rfl (Nat.le_of_ble_eq_true rfl) dT_init_68 (fun H locs hP hD hS => ?_)
  have hP : va_P (dC, dI) vwCl [(h0, .inr (1, [.int 0, .int 0, .int 1, .int 1, .int 0, .int 0, .int 0, .long 0, .int 0, .long 1000000000000, .int 0, .int 0, .int 0, .int 0]))] H := hP
  have hD : va_D A [(h0, .inr (1, [.int 0, .int 0, .int 1, .int 1, .int 0, .int 0, .int 0, .long 0, .int 0, .long 1000000000000, .int 0, .int 0, .int 0, .int 0]))] := hD
  refine lv_aload_n hx hb dT_init_71 rfl (lv_at hl 0 rfl) ?_
  refine lv_iload_n hx hb dT_init_72 rfl (lv_at hl 1 rfl) ?_
  refine va_putF (D := (dC, dI)) (ci := 1) (v := .int n) (ty := .int) (C := R_T) (T := T_T) (N := 14) hx hb hts uw_T ty_T ty_T_ok nm_T hown hK hP hD hS 0 rfl rfl 0 (by decide) (hts _ (List.mem_cons_of_mem _ wd_30)) (fun _ h9 => h9) rfl hin rfl (by decide +kernel) rfl rfl (Nat.le_of_ble_eq_true rfl) dT_init_73 (fun H locs hP hD hS => ?_)
  have hP : va_P (dC, dI) vwCl [(h0, .inr (1, [.int n, .int 0, .int 1, .int 1, .int 0, .int 0, .int 0, .long 0, .int 0, .long 1000000000000, .int 0, .int 0, .int 0, .int 0]))] H := hP
  have hD : va_D A [(h0, .inr (1, [.int n, .int 0, .int 1, .int 1, .int 0, .int 0, .int 0, .long 0, .int 0, .long 1000000000000, .int 0, .int 0, .int 0, .int 0]))] := hD
  exact W.vret hx hb hr (fun t ht hW => ⟨⟨(), rfl, trivial, by rw [ht]; exact hP, va_K.moved hW.alike hK⟩, hS.F ht⟩) hS.2.2 dT_init_76 hlocks
set_option maxHeartbeats 4000000 in
set_option maxRecDepth 100000 in
theorem xc_Q_init (l : Launch) (dC : Nat → ClassId) (dI : Nat → Nat → Nat) (h0 sz : Nat) : Met l y_Q_init ws_Q_init ({ frames := 1, cells := 2, slots := 8, locals := 20 }) (va_Pc [.ref h0] (fun U => U.heap.size = sz ∧ va_P (dC, dI) vwCl [(h0, .inr (0, [.null, .null, .int 0]))] U.heap ∧ va_K (dC, dI) vwCl [] U)) (va_Qv (fun (_ : Nat × Nat × ClassId × ClassId) => True) (fun u t => va_P (dC, dI) vwCl [(h0, .inr (0, [.ref u.1, .ref u.2.1, .int 0])), (u.1, .inl (u.2.2.1, 4, .inl (fun _ => 0))), (u.2.1, .inl (u.2.2.2, 4, .inl (fun _ => 0)))] t.heap ∧ va_K (dC, dI) vwCl [(u.2.2.1, .int), (u.2.2.2, .int)] t ∧ va_D (va_A [(h0, .inr (0, [.null, .null, .int 0]))] sz) [(h0, .inr (0, [.ref u.1, .ref u.2.1, .int 0])), (u.1, .inl (u.2.2.1, 4, .inl (fun _ => 0))), (u.2.1, .inl (u.2.2.2, 4, .inl (fun _ => 0)))]) (va_A [(h0, .inr (0, [.null, .null, .int 0]))] sz)) 2 8 (va_A [(h0, .inr (0, [.null, .null, .int 0]))] sz) := by
  refine Met.ofW (cc := b_Q_init) (maxL := 1) (ret := none) (by decide) rfl ?_
  intro p e s m args below meth c s₁ B hml hv
  obtain ⟨rfl, hsz, hP, hK⟩ := hv
  have hx := B.exec
  have hb := B.bytes
  have hr := B.returns
  have hts := atoms_spec (ws := ws_Q_init) B.pre
  have hown : s.vm.findClass R_Q = some m.cls := findClass_of_methodNamed B.named
  have hlocks := B.notSynchronized
  have hin : meth.name = "<init>" := (name_of_methodNamed B.named B.method).1
  subst hsz
  have hD : va_D (va_A [(h0, .inr (0, [.null, .null, .int 0]))] s.heap.size) [(h0, .inr (0, [.null, .null, .int 0]))] := kk_D1 (Or.inl ⟨0, _, rfl⟩)
  generalize hAe : va_A [(h0, .inr (0, [.null, .null, .int 0]))] s.heap.size = A at hD ⊢
  have hA : ∀ q : Nat, s.heap.size ≤ q → A q := fun q h => by rw [← hAe]; exact Or.inr h
  have hS : va_S A s.heap s.heap [] := va_S.rf
  have hl := lv_entry ([.ref h0]) (n := 1) (Nat.le_of_ble_eq_true rfl)
  rw [lg_entry_eq]
  generalize (lg_sl ([.ref h0]) ++ List.replicate (1 - (lg_sl ([.ref h0])).length) Slot.unset).toArray = ls at hl ⊢
  have hl : lv_has ls 1 [(0, .ref h0)] := hl
  refine lv_aload_n hx hb dQ_init_0 rfl (lv_at hl 0 rfl) ?_
  refine W.objInit hx hb hown (hts _ (List.mem_cons_of_mem _ wd_92)) (hts _ (List.mem_cons_of_mem _ wd_12)) (hts _ (List.mem_cons_of_mem _ wd_13)) rfl (by rw [hml]; exact hl.1) rfl dQ_init_1 (Nat.le_of_ble_eq_true rfl) (Nat.le_of_ble_eq_true rfl) ?_
  refine W.eq (g2 := F0 m 4 ls []) rfl ?_
  refine lv_aload_n hx hb dQ_init_4 rfl (lv_at hl 0 rfl) ?_
  refine lv_iconst (v := 4) hx hb dQ_init_5 (by decide) ?_
  refine va_newa (atype := .int) (N' := 4) (a0 := (4, .inl (fun _ => 0))) (ty := .int) hx hb (hts _ (List.mem_cons_of_mem _ wd_87)) rfl hK hP hD hS hA (fun _ => rfl) (by decide) (by decide) (by decide) (Nat.le_of_ble_eq_true rfl) (Nat.le_of_ble_eq_true rfl) dQ_init_6 (fun q6 c6 H hK hP hD hS => ?_)
  have hP : va_P (dC, dI) vwCl [(h0, .inr (0, [.null, .null, .int 0])), (q6, .inl (c6, 4, .inl (fun _ => 0)))] H := hP
  have hD : va_D A [(h0, .inr (0, [.null, .null, .int 0])), (q6, .inl (c6, 4, .inl (fun _ => 0)))] := hD
  have hK : va_K (dC, dI) vwCl [(c6, .int)] s := hK
  refine W.widen (k := 1) (n := 4) (by omega) (by omega) ?_
  refine va_putF (D := (dC, dI)) (ci := 0) (v := .ref q6) (ty := .array .int) (C := R_Q) (T := T_Q) (N := 3) hx hb hts uw_Q ty_Q ty_Q_ok nm_Q hown hK hP hD hS 0 rfl rfl 0 (by decide) (hts _ (List.mem_cons_of_mem _ wd_93)) (fun _ h9 => h9) rfl hin rfl (by decide +kernel) rfl rfl (Nat.le_of_ble_eq_true rfl) dQ_init_8 (fun H locs hP hD hS => ?_)
  have hP : va_P (dC, dI) vwCl [(h0, .inr (0, [.ref q6, .null, .int 0])), (q6, .inl (c6, 4, .inl (fun _ => 0)))] H := hP
  have hD : va_D A [(h0, .inr (0, [.ref q6, .null, .int 0])), (q6, .inl (c6, 4, .inl (fun _ => 0)))] := hD
  refine lv_aload_n hx hb dQ_init_11 rfl (lv_at hl 0 rfl) ?_
  refine lv_iconst (v := 4) hx hb dQ_init_12 (by decide) ?_
  refine va_newa (atype := .int) (N' := 4) (a0 := (4, .inl (fun _ => 0))) (ty := .int) hx hb (hts _ (List.mem_cons_of_mem _ wd_87)) rfl hK hP hD hS hA (fun _ => rfl) (by decide) (by decide) (by decide) (Nat.le_of_ble_eq_true rfl) (Nat.le_of_ble_eq_true rfl) dQ_init_13 (fun q13 c13 H hK hP hD hS => ?_)
  have hP : va_P (dC, dI) vwCl [(h0, .inr (0, [.ref q6, .null, .int 0])), (q6, .inl (c6, 4, .inl (fun _ => 0))), (q13, .inl (c13, 4, .inl (fun _ => 0)))] H := hP
  have hD : va_D A [(h0, .inr (0, [.ref q6, .null, .int 0])), (q6, .inl (c6, 4, .inl (fun _ => 0))), (q13, .inl (c13, 4, .inl (fun _ => 0)))] := hD
  have hK : va_K (dC, dI) vwCl [(c6, .int), (c13, .int)] s := hK
  refine W.widen (k := 2) (n := 8) (by omega) (by omega) ?_
  refine va_putF (D := (dC, dI)) (ci := 0) (v := .ref q13) (ty := .array .int) (C := R_Q) (T := T_Q) (N := 3) hx hb hts uw_Q ty_Q ty_Q_ok nm_Q hown hK hP hD hS 0 rfl rfl 1 (by decide) (hts _ (List.mem_cons_of_mem _ wd_94)) (fun _ h9 => h9) rfl hin rfl (by decide +kernel) rfl rfl (Nat.le_of_ble_eq_true rfl) dQ_init_15 (fun H locs hP hD hS => ?_)
  have hP : va_P (dC, dI) vwCl [(h0, .inr (0, [.ref q6, .ref q13, .int 0])), (q6, .inl (c6, 4, .inl (fun _ => 0))), (q13, .inl (c13, 4, .inl (fun _ => 0)))] H := hP
  have hD : va_D A [(h0, .inr (0, [.ref q6, .ref q13, .int 0])), (q6, .inl (c6, 4, .inl (fun _ => 0))), (q13, .inl (c13, 4, .inl (fun _ => 0)))] := hD
  refine lv_aload_n hx hb dQ_init_18 rfl (lv_at hl 0 rfl) ?_
  refine lv_iconst (v := 0) hx hb dQ_init_19 (by decide) ?_
  refine va_put (D := (dC, dI)) (ci := 0) (v := .int 0) (ty := .int) (C := R_Q) (T := T_Q) (N := 3) hx hb hts uw_Q ty_Q ty_Q_ok nm_Q hown hK hP hD hS 0 rfl rfl 2 (by decide) (hts _ (List.mem_cons_of_mem _ wd_95)) (fun _ h9 => h9) rfl (by decide +kernel) rfl rfl (Nat.le_of_ble_eq_true rfl) dQ_init_20 (fun H locs hP hD hS => ?_)
  have hP : va_P (dC, dI) vwCl [(h0, .inr (0, [.ref q6, .ref q13, .int 0])), (q6, .inl (c6, 4, .inl (fun _ => 0))), (q13, .inl (c13, 4, .inl (fun _ => 0)))] H := hP
  have hD : va_D A [(h0, .inr (0, [.ref q6, .ref q13, .int 0])), (q6, .inl (c6, 4, .inl (fun _ => 0))), (q13, .inl (c13, 4, .inl (fun _ => 0)))] := hD
  exact W.vret hx hb hr (fun t ht hW => ⟨⟨(q6, q13, c6, c13), rfl, trivial, by rw [ht]; exact hP, va_K.moved hW.alike hK, hD⟩, hS.F ht⟩) hS.2.2 dQ_init_23 hlocks
set_option maxHeartbeats 4000000 in
set_option maxRecDepth 100000 in
theorem xc_init (l : Launch) (dC : Nat → ClassId) (dI : Nat → Nat → Nat) (h0 sz : Nat) (slice ceiling : Int32) : Met l y_X_init ws_X_init ({ frames := 2, cells := 18, slots := 150, locals := 41 }) (va_Pc [.ref h0, .int slice, .int ceiling] (fun U => U.heap.size = sz ∧ va_P (dC, dI) vwCl [(h0, .inr (2, [.int 0, .int 0, .null, .null, .null, .null, .int 0, .long 0]))] U.heap ∧ va_K (dC, dI) vwCl [] U ∧ va_AO R_T U ∧ va_AO R_Q U ∧ va_Nw (.methodLinkNest R_X 54 y_Q_init R_X) U)) (va_Qv (fun (u : (Nat → Nat) × (Nat → ClassId)) => u.1 0 = h0) (fun u t => va_P (dC, dI) vwCl (kx_w u.1 u.2 (xf_init slice ceiling)) t.heap ∧ va_K (dC, dI) vwCl (kx_t u.2) t ∧ va_D (va_A [(h0, .inr (2, [.int 0, .int 0, .null, .null, .null, .null, .int 0, .long 0]))] sz) (kx_w u.1 u.2 (xf_init slice ceiling))) (va_A [(h0, .inr (2, [.int 0, .int 0, .null, .null, .null, .null, .int 0, .long 0]))] sz)) 18 150 (va_A [(h0, .inr (2, [.int 0, .int 0, .null, .null, .null, .null, .int 0, .long 0]))] sz) := by
  refine Met.ofW (cc := b_X_init) (maxL := 4) (ret := none) (by decide) rfl ?_
  intro p e s m args below meth c s₁ B hml hv
  obtain ⟨rfl, hsz, hP, hK, hO1, hO2, hNw⟩ := hv
  have hx := B.exec
  have hb := B.bytes
  have hr := B.returns
  have hts := atoms_spec (ws := ws_X_init) B.pre
  have hown : s.vm.findClass R_X = some m.cls := findClass_of_methodNamed B.named
  have hlocks := B.notSynchronized
  have hin : meth.name = "<init>" := (name_of_methodNamed B.named B.method).1
  subst hsz
  have hD : va_D (va_A [(h0, .inr (2, [.int 0, .int 0, .null, .null, .null, .null, .int 0, .long 0]))] s.heap.size) [(h0, .inr (2, [.int 0, .int 0, .null, .null, .null, .null, .int 0, .long 0]))] := kk_D1 (Or.inl ⟨0, _, rfl⟩)
  generalize hAe : va_A [(h0, .inr (2, [.int 0, .int 0, .null, .null, .null, .null, .int 0, .long 0]))] s.heap.size = A at hD ⊢
  have hA : ∀ q : Nat, s.heap.size ≤ q → A q := fun q h => by rw [← hAe]; exact Or.inr h
  have hS : va_S A s.heap s.heap [] := va_S.rf
  generalize hf : xf_init slice ceiling = out
  have hl := lv_entry ([.ref h0, .int slice, .int ceiling]) (n := 4) (Nat.le_of_ble_eq_true rfl)
  rw [lg_entry_eq]
  generalize (lg_sl ([.ref h0, .int slice, .int ceiling]) ++ List.replicate (4 - (lg_sl ([.ref h0, .int slice, .int ceiling])).length) Slot.unset).toArray = ls at hl ⊢
  have hl : lv_has ls 4 [(0, .ref h0), (1, .int slice), (2, .int ceiling)] := hl
  rw [xf_init] at hf
  refine lv_aload_n hx hb dX_init_0 rfl (lv_at hl 0 rfl) ?_
  refine W.objInit hx hb hown (hts _ (List.mem_cons_of_mem _ wd_11)) (hts _ (List.mem_cons_of_mem _ wd_12)) (hts _ (List.mem_cons_of_mem _ wd_13)) rfl (by rw [hml]; exact hl.1) rfl dX_init_1 (Nat.le_of_ble_eq_true rfl) (Nat.le_of_ble_eq_true rfl) ?_
  refine W.eq (g2 := F0 m 4 ls []) rfl ?_
  refine lv_aload_n hx hb dX_init_4 rfl (lv_at hl 0 rfl) ?_
  refine lv_bipush (v := 8) hx hb dX_init_5 (by decide) ?_
  refine va_newq (C := R_T) hx hb hown (hts _ (List.mem_cons_of_mem _ wd_14)) hO1 hK hP hD hS hA (n := 8) (N' := 8) (by decide) (by decide) (by decide) (Nat.le_of_ble_eq_true rfl) (Nat.le_of_ble_eq_true rfl) dX_init_7 (fun q7 c7 H hK hP hD hS => ?_)
  have hP : va_P (dC, dI) vwCl [(h0, .inr (2, [.int 0, .int 0, .null, .null, .null, .null, .int 0, .long 0])), (q7, .inl (c7, 8, .inr (.inr (.inr (.inr (fun _ => none))))))] H := hP
  have hD : va_D A [(h0, .inr (2, [.int 0, .int 0, .null, .null, .null, .null, .int 0, .long 0])), (q7, .inl (c7, 8, .inr (.inr (.inr (.inr (fun _ => none))))))] := hD
  have hK : va_K (dC, dI) vwCl [(c7, .object R_T)] s := hK
  refine W.widen (k := 1) (n := 8) (by omega) (by omega) ?_
  refine va_putF (D := (dC, dI)) (ci := 2) (v := .ref q7) (ty := .array (.object "PriorityKernel$Task")) (C := R_X) (T := T_X) (N := 8) hx hb hts uw_X ty_X ty_X_ok nm_X hown hK hP hD hS 0 rfl rfl 2 (by decide) (hts _ (List.mem_cons_of_mem _ wd_106)) (fun _ h9 => h9) rfl hin rfl (by decide +kernel) rfl rfl (Nat.le_of_ble_eq_true rfl) dX_init_10 (fun H locs hP hD hS => ?_)
  have hP : va_P (dC, dI) vwCl [(h0, .inr (2, [.int 0, .int 0, .ref q7, .null, .null, .null, .int 0, .long 0])), (q7, .inl (c7, 8, .inr (.inr (.inr (.inr (fun _ => none))))))] H := hP
  have hD : va_D A [(h0, .inr (2, [.int 0, .int 0, .ref q7, .null, .null, .null, .int 0, .long 0])), (q7, .inl (c7, 8, .inr (.inr (.inr (.inr (fun _ => none))))))] := hD
  refine lv_aload_n hx hb dX_init_13 rfl (lv_at hl 0 rfl) ?_
  refine lv_iconst (v := 4) hx hb dX_init_14 (by decide) ?_
  refine va_newa (atype := .int) (N' := 4) (a0 := (4, .inl (fun _ => 0))) (ty := .int) hx hb (hts _ (List.mem_cons_of_mem _ wd_87)) rfl hK hP hD hS hA (fun _ => rfl) (by decide) (by decide) (by decide) (Nat.le_of_ble_eq_true rfl) (Nat.le_of_ble_eq_true rfl) dX_init_15 (fun q15 c15 H hK hP hD hS => ?_)
  have hP : va_P (dC, dI) vwCl [(h0, .inr (2, [.int 0, .int 0, .ref q7, .null, .null, .null, .int 0, .long 0])), (q7, .inl (c7, 8, .inr (.inr (.inr (.inr (fun _ => none)))))), (q15, .inl (c15, 4, .inl (fun _ => 0)))] H := hP
  have hD : va_D A [(h0, .inr (2, [.int 0, .int 0, .ref q7, .null, .null, .null, .int 0, .long 0])), (q7, .inl (c7, 8, .inr (.inr (.inr (.inr (fun _ => none)))))), (q15, .inl (c15, 4, .inl (fun _ => 0)))] := hD
  have hK : va_K (dC, dI) vwCl [(c7, .object R_T), (c15, .int)] s := hK
  refine W.widen (k := 2) (n := 12) (by omega) (by omega) ?_
  refine va_putF (D := (dC, dI)) (ci := 2) (v := .ref q15) (ty := .array .int) (C := R_X) (T := T_X) (N := 8) hx hb hts uw_X ty_X ty_X_ok nm_X hown hK hP hD hS 0 rfl rfl 3 (by decide) (hts _ (List.mem_cons_of_mem _ wd_107)) (fun _ h9 => h9) rfl hin rfl (by decide +kernel) rfl rfl (Nat.le_of_ble_eq_true rfl) dX_init_17 (fun H locs hP hD hS => ?_)
  have hP : va_P (dC, dI) vwCl [(h0, .inr (2, [.int 0, .int 0, .ref q7, .ref q15, .null, .null, .int 0, .long 0])), (q7, .inl (c7, 8, .inr (.inr (.inr (.inr (fun _ => none)))))), (q15, .inl (c15, 4, .inl (fun _ => 0)))] H := hP
  have hD : va_D A [(h0, .inr (2, [.int 0, .int 0, .ref q7, .ref q15, .null, .null, .int 0, .long 0])), (q7, .inl (c7, 8, .inr (.inr (.inr (.inr (fun _ => none)))))), (q15, .inl (c15, 4, .inl (fun _ => 0)))] := hD
  refine lv_aload_n hx hb dX_init_20 rfl (lv_at hl 0 rfl) ?_
  refine lv_iconst (v := 2) hx hb dX_init_21 (by decide) ?_
  refine va_newa (atype := .int) (N' := 2) (a0 := (2, .inl (fun _ => 0))) (ty := .int) hx hb (hts _ (List.mem_cons_of_mem _ wd_87)) rfl hK hP hD hS hA (fun _ => rfl) (by decide) (by decide) (by decide) (Nat.le_of_ble_eq_true rfl) (Nat.le_of_ble_eq_true rfl) dX_init_22 (fun q22 c22 H hK hP hD hS => ?_)
  have hP : va_P (dC, dI) vwCl [(h0, .inr (2, [.int 0, .int 0, .ref q7, .ref q15, .null, .null, .int 0, .long 0])), (q7, .inl (c7, 8, .inr (.inr (.inr (.inr (fun _ => none)))))), (q15, .inl (c15, 4, .inl (fun _ => 0))), (q22, .inl (c22, 2, .inl (fun _ => 0)))] H := hP
  have hD : va_D A [(h0, .inr (2, [.int 0, .int 0, .ref q7, .ref q15, .null, .null, .int 0, .long 0])), (q7, .inl (c7, 8, .inr (.inr (.inr (.inr (fun _ => none)))))), (q15, .inl (c15, 4, .inl (fun _ => 0))), (q22, .inl (c22, 2, .inl (fun _ => 0)))] := hD
  have hK : va_K (dC, dI) vwCl [(c7, .object R_T), (c15, .int), (c22, .int)] s := hK
  refine W.widen (k := 3) (n := 14) (by omega) (by omega) ?_
  refine va_putF (D := (dC, dI)) (ci := 2) (v := .ref q22) (ty := .array .int) (C := R_X) (T := T_X) (N := 8) hx hb hts uw_X ty_X ty_X_ok nm_X hown hK hP hD hS 0 rfl rfl 4 (by decide) (hts _ (List.mem_cons_of_mem _ wd_108)) (fun _ h9 => h9) rfl hin rfl (by decide +kernel) rfl rfl (Nat.le_of_ble_eq_true rfl) dX_init_24 (fun H locs hP hD hS => ?_)
  have hP : va_P (dC, dI) vwCl [(h0, .inr (2, [.int 0, .int 0, .ref q7, .ref q15, .ref q22, .null, .int 0, .long 0])), (q7, .inl (c7, 8, .inr (.inr (.inr (.inr (fun _ => none)))))), (q15, .inl (c15, 4, .inl (fun _ => 0))), (q22, .inl (c22, 2, .inl (fun _ => 0)))] H := hP
  have hD : va_D A [(h0, .inr (2, [.int 0, .int 0, .ref q7, .ref q15, .ref q22, .null, .int 0, .long 0])), (q7, .inl (c7, 8, .inr (.inr (.inr (.inr (fun _ => none)))))), (q15, .inl (c15, 4, .inl (fun _ => 0))), (q22, .inl (c22, 2, .inl (fun _ => 0)))] := hD
  refine lv_aload_n hx hb dX_init_27 rfl (lv_at hl 0 rfl) ?_
  refine lv_iconst (v := 2) hx hb dX_init_28 (by decide) ?_
  refine va_newq (C := R_Q) hx hb hown (hts _ (List.mem_cons_of_mem _ wd_16)) hO2 hK hP hD hS hA (n := 2) (N' := 2) (by decide) (by decide) (by decide) (Nat.le_of_ble_eq_true rfl) (Nat.le_of_ble_eq_true rfl) dX_init_29 (fun q29 c29 H hK hP hD hS => ?_)
  have hP : va_P (dC, dI) vwCl [(h0, .inr (2, [.int 0, .int 0, .ref q7, .ref q15, .ref q22, .null, .int 0, .long 0])), (q7, .inl (c7, 8, .inr (.inr (.inr (.inr (fun _ => none)))))), (q15, .inl (c15, 4, .inl (fun _ => 0))), (q22, .inl (c22, 2, .inl (fun _ => 0))), (q29, .inl (c29, 2, .inr (.inr (.inr (.inr (fun _ => none))))))] H := hP
  have hD : va_D A [(h0, .inr (2, [.int 0, .int 0, .ref q7, .ref q15, .ref q22, .null, .int 0, .long 0])), (q7, .inl (c7, 8, .inr (.inr (.inr (.inr (fun _ => none)))))), (q15, .inl (c15, 4, .inl (fun _ => 0))), (q22, .inl (c22, 2, .inl (fun _ => 0))), (q29, .inl (c29, 2, .inr (.inr (.inr (.inr (fun _ => none))))))] := hD
  have hK : va_K (dC, dI) vwCl [(c7, .object R_T), (c15, .int), (c22, .int), (c29, .object R_Q)] s := hK
  refine W.widen (k := 4) (n := 16) (by omega) (by omega) ?_
  refine va_putF (D := (dC, dI)) (ci := 2) (v := .ref q29) (ty := .array (.object "PriorityKernel$MessageQueue")) (C := R_X) (T := T_X) (N := 8) hx hb hts uw_X ty_X ty_X_ok nm_X hown hK hP hD hS 0 rfl rfl 5 (by decide) (hts _ (List.mem_cons_of_mem _ wd_109)) (fun _ h9 => h9) rfl hin rfl (by decide +kernel) rfl rfl (Nat.le_of_ble_eq_true rfl) dX_init_32 (fun H locs hP hD hS => ?_)
  have hP : va_P (dC, dI) vwCl [(h0, .inr (2, [.int 0, .int 0, .ref q7, .ref q15, .ref q22, .ref q29, .int 0, .long 0])), (q7, .inl (c7, 8, .inr (.inr (.inr (.inr (fun _ => none)))))), (q15, .inl (c15, 4, .inl (fun _ => 0))), (q22, .inl (c22, 2, .inl (fun _ => 0))), (q29, .inl (c29, 2, .inr (.inr (.inr (.inr (fun _ => none))))))] H := hP
  have hD : va_D A [(h0, .inr (2, [.int 0, .int 0, .ref q7, .ref q15, .ref q22, .ref q29, .int 0, .long 0])), (q7, .inl (c7, 8, .inr (.inr (.inr (.inr (fun _ => none)))))), (q15, .inl (c15, 4, .inl (fun _ => 0))), (q22, .inl (c22, 2, .inl (fun _ => 0))), (q29, .inl (c29, 2, .inr (.inr (.inr (.inr (fun _ => none))))))] := hD
  refine lv_aload_n hx hb dX_init_35 rfl (lv_at hl 0 rfl) ?_
  refine lv_iconst (v := 0) hx hb dX_init_36 (by decide) ?_
  refine va_put (D := (dC, dI)) (ci := 2) (v := .int 0) (ty := .int) (C := R_X) (T := T_X) (N := 8) hx hb hts uw_X ty_X ty_X_ok nm_X hown hK hP hD hS 0 rfl rfl 6 (by decide) (hts _ (List.mem_cons_of_mem _ wd_110)) (fun _ h9 => h9) rfl (by decide +kernel) rfl rfl (Nat.le_of_ble_eq_true rfl) dX_init_37 (fun H locs hP hD hS => ?_)
  have hP : va_P (dC, dI) vwCl [(h0, .inr (2, [.int 0, .int 0, .ref q7, .ref q15, .ref q22, .ref q29, .int 0, .long 0])), (q7, .inl (c7, 8, .inr (.inr (.inr (.inr (fun _ => none)))))), (q15, .inl (c15, 4, .inl (fun _ => 0))), (q22, .inl (c22, 2, .inl (fun _ => 0))), (q29, .inl (c29, 2, .inr (.inr (.inr (.inr (fun _ => none))))))] H := hP
  have hD : va_D A [(h0, .inr (2, [.int 0, .int 0, .ref q7, .ref q15, .ref q22, .ref q29, .int 0, .long 0])), (q7, .inl (c7, 8, .inr (.inr (.inr (.inr (fun _ => none)))))), (q15, .inl (c15, 4, .inl (fun _ => 0))), (q22, .inl (c22, 2, .inl (fun _ => 0))), (q29, .inl (c29, 2, .inr (.inr (.inr (.inr (fun _ => none))))))] := hD
  refine lv_aload_n hx hb dX_init_40 rfl (lv_at hl 0 rfl) ?_
  refine lv_lconst (v := 0) hx hb dX_init_41 (by decide) ?_
  refine va_put (D := (dC, dI)) (ci := 2) (v := .long 0) (ty := .long) (C := R_X) (T := T_X) (N := 8) hx hb hts uw_X ty_X ty_X_ok nm_X hown hK hP hD hS 0 rfl rfl 7 (by decide) (hts _ (List.mem_cons_of_mem _ wd_111)) (fun _ h9 => h9) rfl (by decide +kernel) rfl rfl (Nat.le_of_ble_eq_true rfl) dX_init_42 (fun H locs hP hD hS => ?_)
  have hP : va_P (dC, dI) vwCl [(h0, .inr (2, [.int 0, .int 0, .ref q7, .ref q15, .ref q22, .ref q29, .int 0, .long 0])), (q7, .inl (c7, 8, .inr (.inr (.inr (.inr (fun _ => none)))))), (q15, .inl (c15, 4, .inl (fun _ => 0))), (q22, .inl (c22, 2, .inl (fun _ => 0))), (q29, .inl (c29, 2, .inr (.inr (.inr (.inr (fun _ => none))))))] H := hP
  have hD : va_D A [(h0, .inr (2, [.int 0, .int 0, .ref q7, .ref q15, .ref q22, .ref q29, .int 0, .long 0])), (q7, .inl (c7, 8, .inr (.inr (.inr (.inr (fun _ => none)))))), (q15, .inl (c15, 4, .inl (fun _ => 0))), (q22, .inl (c22, 2, .inl (fun _ => 0))), (q29, .inl (c29, 2, .inr (.inr (.inr (.inr (fun _ => none))))))] := hD
  refine lv_aload_n hx hb dX_init_45 rfl (lv_at hl 0 rfl) ?_
  refine lv_iconst (v := 1) hx hb dX_init_46 (by decide) ?_
  refine lv_bipush (v := 20) hx hb dX_init_47 (by decide) ?_
  refine lv_iload_n hx hb dX_init_49 rfl (lv_at hl 1 rfl) ?_
  refine va_mmin hx hb (hml.trans hl.1.symm) hown (hts _ (List.mem_cons_of_mem _ wd_18)) (hts _ (List.mem_cons_of_mem _ wd_19)) (hts _ (List.mem_cons_of_mem _ wd_2)) (hts _ (List.mem_cons_of_mem _ wd_20)) (Nat.le_of_ble_eq_true rfl) (Nat.le_of_ble_eq_true rfl) (Nat.le_of_ble_eq_true rfl) (Nat.le_of_ble_eq_true rfl) dX_init_50 ?_
  refine va_mmax hx hb (hml.trans hl.1.symm) hown (hts _ (List.mem_cons_of_mem _ wd_21)) (hts _ (List.mem_cons_of_mem _ wd_22)) (hts _ (List.mem_cons_of_mem _ wd_2)) (hts _ (List.mem_cons_of_mem _ wd_23)) (Nat.le_of_ble_eq_true rfl) (Nat.le_of_ble_eq_true rfl) (Nat.le_of_ble_eq_true rfl) (Nat.le_of_ble_eq_true rfl) dX_init_53 ?_
  refine va_putF (D := (dC, dI)) (ci := 2) (v := .int (if 1 < (if slice < 20 then slice else 20) then (if slice < 20 then slice else 20) else 1)) (ty := .int) (C := R_X) (T := T_X) (N := 8) hx hb hts uw_X ty_X ty_X_ok nm_X hown hK hP hD hS 0 rfl rfl 0 (by decide) (hts _ (List.mem_cons_of_mem _ wd_104)) (fun _ h9 => h9) rfl hin rfl (by decide +kernel) rfl rfl (Nat.le_of_ble_eq_true rfl) dX_init_56 (fun H locs hP hD hS => ?_)
  have hP : va_P (dC, dI) vwCl [(h0, .inr (2, [.int (if 1 < (if slice < 20 then slice else 20) then (if slice < 20 then slice else 20) else 1), .int 0, .ref q7, .ref q15, .ref q22, .ref q29, .int 0, .long 0])), (q7, .inl (c7, 8, .inr (.inr (.inr (.inr (fun _ => none)))))), (q15, .inl (c15, 4, .inl (fun _ => 0))), (q22, .inl (c22, 2, .inl (fun _ => 0))), (q29, .inl (c29, 2, .inr (.inr (.inr (.inr (fun _ => none))))))] H := hP
  have hD : va_D A [(h0, .inr (2, [.int (if 1 < (if slice < 20 then slice else 20) then (if slice < 20 then slice else 20) else 1), .int 0, .ref q7, .ref q15, .ref q22, .ref q29, .int 0, .long 0])), (q7, .inl (c7, 8, .inr (.inr (.inr (.inr (fun _ => none)))))), (q15, .inl (c15, 4, .inl (fun _ => 0))), (q22, .inl (c22, 2, .inl (fun _ => 0))), (q29, .inl (c29, 2, .inr (.inr (.inr (.inr (fun _ => none))))))] := hD
  refine lv_aload_n hx hb dX_init_59 rfl (lv_at hl 0 rfl) ?_
  refine lv_iconst (v := 1) hx hb dX_init_60 (by decide) ?_
  refine lv_bipush (v := 31) hx hb dX_init_61 (by decide) ?_
  refine lv_iload_n hx hb dX_init_63 rfl (lv_at hl 2 rfl) ?_
  refine va_mmin hx hb (hml.trans hl.1.symm) hown (hts _ (List.mem_cons_of_mem _ wd_18)) (hts _ (List.mem_cons_of_mem _ wd_19)) (hts _ (List.mem_cons_of_mem _ wd_2)) (hts _ (List.mem_cons_of_mem _ wd_20)) (Nat.le_of_ble_eq_true rfl) (Nat.le_of_ble_eq_true rfl) (Nat.le_of_ble_eq_true rfl) (Nat.le_of_ble_eq_true rfl) dX_init_64 ?_
  refine va_mmax hx hb (hml.trans hl.1.symm) hown (hts _ (List.mem_cons_of_mem _ wd_21)) (hts _ (List.mem_cons_of_mem _ wd_22)) (hts _ (List.mem_cons_of_mem _ wd_2)) (hts _ (List.mem_cons_of_mem _ wd_23)) (Nat.le_of_ble_eq_true rfl) (Nat.le_of_ble_eq_true rfl) (Nat.le_of_ble_eq_true rfl) (Nat.le_of_ble_eq_true rfl) dX_init_67 ?_
  refine va_putF (D := (dC, dI)) (ci := 2) (v := .int (if 1 < (if ceiling < 31 then ceiling else 31) then (if ceiling < 31 then ceiling else 31) else 1)) (ty := .int) (C := R_X) (T := T_X) (N := 8) hx hb hts uw_X ty_X ty_X_ok nm_X hown hK hP hD hS 0 rfl rfl 1 (by decide) (hts _ (List.mem_cons_of_mem _ wd_105)) (fun _ h9 => h9) rfl hin rfl (by decide +kernel) rfl rfl (Nat.le_of_ble_eq_true rfl) dX_init_70 (fun H locs hP hD hS => ?_)
  have hP : va_P (dC, dI) vwCl [(h0, .inr (2, [.int (if 1 < (if slice < 20 then slice else 20) then (if slice < 20 then slice else 20) else 1), .int (if 1 < (if ceiling < 31 then ceiling else 31) then (if ceiling < 31 then ceiling else 31) else 1), .ref q7, .ref q15, .ref q22, .ref q29, .int 0, .long 0])), (q7, .inl (c7, 8, .inr (.inr (.inr (.inr (fun _ => none)))))), (q15, .inl (c15, 4, .inl (fun _ => 0))), (q22, .inl (c22, 2, .inl (fun _ => 0))), (q29, .inl (c29, 2, .inr (.inr (.inr (.inr (fun _ => none))))))] H := hP
  have hD : va_D A [(h0, .inr (2, [.int (if 1 < (if slice < 20 then slice else 20) then (if slice < 20 then slice else 20) else 1), .int (if 1 < (if ceiling < 31 then ceiling else 31) then (if ceiling < 31 then ceiling else 31) else 1), .ref q7, .ref q15, .ref q22, .ref q29, .int 0, .long 0])), (q7, .inl (c7, 8, .inr (.inr (.inr (.inr (fun _ => none)))))), (q15, .inl (c15, 4, .inl (fun _ => 0))), (q22, .inl (c22, 2, .inl (fun _ => 0))), (q29, .inl (c29, 2, .inr (.inr (.inr (.inr (fun _ => none))))))] := hD
  refine lv_iconst (v := 0) hx hb dX_init_73 (by decide) ?_
  refine lv_istore_n (lv' := [(3, .int 0), (0, .ref h0), (1, .int slice), (2, .int ceiling)]) hx hb dX_init_74 rfl hl (by decide) rfl (fun ls hl => ?_)
  refine lv_iload_n hx hb dX_init_75 rfl (lv_at hl 0 rfl) ?_
  refine lv_bipush (v := 8) hx hb dX_init_76 (by decide) ?_
  refine lv_icmp_ge (tgt := 101) hx hb dX_init_78 (by decide) (fun c9 => absurd c9 (by decide)) (fun _ => ?_)
  refine lv_aload_n hx hb dX_init_81 rfl (lv_at hl 1 rfl) ?_
  refine va_get (D := (dC, dI)) (ci := 2) (v := .ref q7) (C := R_X) (T := T_X) (N := 8) hx hb hts uw_X hown hK hP 0 rfl rfl 2 (by decide) (hts _ (List.mem_cons_of_mem _ wd_106)) (fun _ h9 => h9) rfl dX_init_82 ?_
  refine lv_iload_n hx hb dX_init_85 rfl (lv_at hl 0 rfl) ?_
  refine va_new (ci := 1) (fs := [.int 0, .int 0, .int 0, .int 0, .int 0, .int 0, .int 0, .long 0, .int 0, .long 0, .int 0, .int 0, .int 0, .int 0]) (C := R_T) (T := T_T) (N := 14) hx hb hts uw_T ty_T ty_T_ok hown (hts _ (List.mem_cons_of_mem _ wd_14)) (hts _ (List.mem_cons_of_mem _ wd_24)) (hts _ (List.mem_cons_of_mem _ wd_3)) hK hP hD hS hA rfl (fun j hj => by rcases (show j = 0 ∨ j = 1 ∨ j = 2 ∨ j = 3 ∨ j = 4 ∨ j = 5 ∨ j = 6 ∨ j = 7 ∨ j = 8 ∨ j = 9 ∨ j = 10 ∨ j = 11 ∨ j = 12 ∨ j = 13 by omega) with rfl | rfl | rfl | rfl | rfl | rfl | rfl | rfl | rfl | rfl | rfl | rfl | rfl | rfl <;> rfl) (Nat.le_of_ble_eq_true rfl) (Nat.le_of_ble_eq_true rfl) dX_init_86 (fun q86 H hP hD hS => ?_)
  have hP : va_P (dC, dI) vwCl [(h0, .inr (2, [.int (if 1 < (if slice < 20 then slice else 20) then (if slice < 20 then slice else 20) else 1), .int (if 1 < (if ceiling < 31 then ceiling else 31) then (if ceiling < 31 then ceiling else 31) else 1), .ref q7, .ref q15, .ref q22, .ref q29, .int 0, .long 0])), (q7, .inl (c7, 8, .inr (.inr (.inr (.inr (fun _ => none)))))), (q15, .inl (c15, 4, .inl (fun _ => 0))), (q22, .inl (c22, 2, .inl (fun _ => 0))), (q29, .inl (c29, 2, .inr (.inr (.inr (.inr (fun _ => none)))))), (q86, .inr (1, [.int 0, .int 0, .int 0, .int 0, .int 0, .int 0, .int 0, .long 0, .int 0, .long 0, .int 0, .int 0, .int 0, .int 0]))] H := hP
  have hD : va_D A [(h0, .inr (2, [.int (if 1 < (if slice < 20 then slice else 20) then (if slice < 20 then slice else 20) else 1), .int (if 1 < (if ceiling < 31 then ceiling else 31) then (if ceiling < 31 then ceiling else 31) else 1), .ref q7, .ref q15, .ref q22, .ref q29, .int 0, .long 0])), (q7, .inl (c7, 8, .inr (.inr (.inr (.inr (fun _ => none)))))), (q15, .inl (c15, 4, .inl (fun _ => 0))), (q22, .inl (c22, 2, .inl (fun _ => 0))), (q29, .inl (c29, 2, .inr (.inr (.inr (.inr (fun _ => none)))))), (q86, .inr (1, [.int 0, .int 0, .int 0, .int 0, .int 0, .int 0, .int 0, .long 0, .int 0, .long 0, .int 0, .int 0, .int 0, .int 0]))] := hD
  refine W.widen (k := 5) (n := 30) (by omega) (by omega) ?_
  refine lv_dup hx hb dX_init_89 rfl ?_
  refine lv_iload_n hx hb dX_init_90 rfl (lv_at hl 0 rfl) ?_
  have hPc := hP.sub (ws' := [(q86, .inr (1, [.int 0, .int 0, .int 0, .int 0, .int 0, .int 0, .int 0, .long 0, .int 0, .long 0, .int 0, .int 0, .int 0, .int 0]))]) [5] rfl
  have hKc := hK.sub (tys' := []) [] rfl
  have hFc : ∀ q, q = q86 → A q := fun q h9 => by rw [h9]; exact hD.2 5 _ rfl
  refine va_callv (va_runI (As := [.int 0]) (rest := [.ref q86, .int 0, .ref q7]) ⟨hx, hb, hml, hown, hts⟩ (xc_T_init l dC dI q86 0) (cwI 1 hts (kn_I wd_27) rfl rfl rfl (hts _ (List.mem_cons_of_mem _ wd_3)) (hts _ (List.mem_cons_of_mem _ wd_25)) (hts _ (List.mem_cons_of_mem _ wd_26)) rfl (by decide +kernel) ⟨Nat.le_of_ble_eq_true rfl, Nat.le_of_ble_eq_true rfl⟩) ⟨kk_blind, kk_pre hPc hKc⟩ rfl rfl hl.1 rfl (lv_room (Nat.le_of_ble_eq_true rfl)) dX_init_91 ⟨Nat.le_of_ble_eq_true rfl, Nat.le_of_ble_eq_true rfl⟩) hS (fun q _ h => hFc q h) hFc (fun u t H1 locs ht hvm hw hB hz1 hk1 hS => ?_)
  have hP1 := hB.1
  rw [ht] at hP1
  have hP := kk_last (ws := [(h0, .inr (2, [.int (if 1 < (if slice < 20 then slice else 20) then (if slice < 20 then slice else 20) else 1), .int (if 1 < (if ceiling < 31 then ceiling else 31) then (if ceiling < 31 then ceiling else 31) else 1), .ref q7, .ref q15, .ref q22, .ref q29, .int 0, .long 0])), (q7, .inl (c7, 8, .inr (.inr (.inr (.inr (fun _ => none)))))), (q15, .inl (c15, 4, .inl (fun _ => 0))), (q22, .inl (c22, 2, .inl (fun _ => 0))), (q29, .inl (c29, 2, .inr (.inr (.inr (.inr (fun _ => none))))))]) hP hD hk1 hP1
  have hD := kk_lastD (ws := [(h0, .inr (2, [.int (if 1 < (if slice < 20 then slice else 20) then (if slice < 20 then slice else 20) else 1), .int (if 1 < (if ceiling < 31 then ceiling else 31) then (if ceiling < 31 then ceiling else 31) else 1), .ref q7, .ref q15, .ref q22, .ref q29, .int 0, .long 0])), (q7, .inl (c7, 8, .inr (.inr (.inr (.inr (fun _ => none)))))), (q15, .inl (c15, 4, .inl (fun _ => 0))), (q22, .inl (c22, 2, .inl (fun _ => 0))), (q29, .inl (c29, 2, .inr (.inr (.inr (.inr (fun _ => none))))))]) (e2 := .inr (1, [.int 0, .int 0, .int 1, .int 1, .int 0, .int 0, .int 0, .long 0, .int 0, .long 1000000000000, .int 0, .int 0, .int 0, .int 0])) hD
  generalize H1 = H at hP hS ⊢
  have hP : va_P (dC, dI) vwCl [(h0, .inr (2, [.int (if 1 < (if slice < 20 then slice else 20) then (if slice < 20 then slice else 20) else 1), .int (if 1 < (if ceiling < 31 then ceiling else 31) then (if ceiling < 31 then ceiling else 31) else 1), .ref q7, .ref q15, .ref q22, .ref q29, .int 0, .long 0])), (q7, .inl (c7, 8, .inr (.inr (.inr (.inr (fun _ => none)))))), (q15, .inl (c15, 4, .inl (fun _ => 0))), (q22, .inl (c22, 2, .inl (fun _ => 0))), (q29, .inl (c29, 2, .inr (.inr (.inr (.inr (fun _ => none)))))), (q86, .inr (1, [.int 0, .int 0, .int 1, .int 1, .int 0, .int 0, .int 0, .long 0, .int 0, .long 1000000000000, .int 0, .int 0, .int 0, .int 0]))] H := hP
  have hD : va_D A [(h0, .inr (2, [.int (if 1 < (if slice < 20 then slice else 20) then (if slice < 20 then slice else 20) else 1), .int (if 1 < (if ceiling < 31 then ceiling else 31) then (if ceiling < 31 then ceiling else 31) else 1), .ref q7, .ref q15, .ref q22, .ref q29, .int 0, .long 0])), (q7, .inl (c7, 8, .inr (.inr (.inr (.inr (fun _ => none)))))), (q15, .inl (c15, 4, .inl (fun _ => 0))), (q22, .inl (c22, 2, .inl (fun _ => 0))), (q29, .inl (c29, 2, .inr (.inr (.inr (.inr (fun _ => none)))))), (q86, .inr (1, [.int 0, .int 0, .int 1, .int 1, .int 0, .int 0, .int 0, .long 0, .int 0, .long 1000000000000, .int 0, .int 0, .int 0, .int 0]))] := hD
  refine W.widen (k := 5) (n := 30) (by omega) (by omega) ?_
  refine va_astq hx hb hK hP hD hS 1 0 5 1 rfl rfl rfl rfl (kk_inl (by decide)) dX_init_94 (fun H locs hP hD hS => ?_)
  rw [kk_c0] at hP hD
  have hP : va_P (dC, dI) vwCl [(h0, .inr (2, [.int (if 1 < (if slice < 20 then slice else 20) then (if slice < 20 then slice else 20) else 1), .int (if 1 < (if ceiling < 31 then ceiling else 31) then (if ceiling < 31 then ceiling else 31) else 1), .ref q7, .ref q15, .ref q22, .ref q29, .int 0, .long 0])), (q7, .inl (c7, 8, .inr (.inr (.inr (.inr (va_up (fun _ => none) 0 (some q86))))))), (q15, .inl (c15, 4, .inl (fun _ => 0))), (q22, .inl (c22, 2, .inl (fun _ => 0))), (q29, .inl (c29, 2, .inr (.inr (.inr (.inr (fun _ => none)))))), (q86, .inr (1, [.int 0, .int 0, .int 1, .int 1, .int 0, .int 0, .int 0, .long 0, .int 0, .long 1000000000000, .int 0, .int 0, .int 0, .int 0]))] H := hP
  have hD : va_D A [(h0, .inr (2, [.int (if 1 < (if slice < 20 then slice else 20) then (if slice < 20 then slice else 20) else 1), .int (if 1 < (if ceiling < 31 then ceiling else 31) then (if ceiling < 31 then ceiling else 31) else 1), .ref q7, .ref q15, .ref q22, .ref q29, .int 0, .long 0])), (q7, .inl (c7, 8, .inr (.inr (.inr (.inr (va_up (fun _ => none) 0 (some q86))))))), (q15, .inl (c15, 4, .inl (fun _ => 0))), (q22, .inl (c22, 2, .inl (fun _ => 0))), (q29, .inl (c29, 2, .inr (.inr (.inr (.inr (fun _ => none)))))), (q86, .inr (1, [.int 0, .int 0, .int 1, .int 1, .int 0, .int 0, .int 0, .long 0, .int 0, .long 1000000000000, .int 0, .int 0, .int 0, .int 0]))] := hD
  refine lv_iinc (v := 1) (lv' := [(3, .int 1), (0, .ref h0), (1, .int slice), (2, .int ceiling)]) hx hb dX_init_95 hl (k := 0) rfl (by decide) (by decide) rfl (fun ls hl => ?_)
  refine lv_goto (tgt := 75) hx hb dX_init_98 (by decide) ?_
  refine lv_iload_n hx hb dX_init_75 rfl (lv_at hl 0 rfl) ?_
  refine lv_bipush (v := 8) hx hb dX_init_76 (by decide) ?_
  refine lv_icmp_ge (tgt := 101) hx hb dX_init_78 (by decide) (fun c9 => absurd c9 (by decide)) (fun _ => ?_)
  refine lv_aload_n hx hb dX_init_81 rfl (lv_at hl 1 rfl) ?_
  refine va_get (D := (dC, dI)) (ci := 2) (v := .ref q7) (C := R_X) (T := T_X) (N := 8) hx hb hts uw_X hown hK hP 0 rfl rfl 2 (by decide) (hts _ (List.mem_cons_of_mem _ wd_106)) (fun _ h9 => h9) rfl dX_init_82 ?_
  refine lv_iload_n hx hb dX_init_85 rfl (lv_at hl 0 rfl) ?_
  refine va_new (ci := 1) (fs := [.int 0, .int 0, .int 0, .int 0, .int 0, .int 0, .int 0, .long 0, .int 0, .long 0, .int 0, .int 0, .int 0, .int 0]) (C := R_T) (T := T_T) (N := 14) hx hb hts uw_T ty_T ty_T_ok hown (hts _ (List.mem_cons_of_mem _ wd_14)) (hts _ (List.mem_cons_of_mem _ wd_24)) (hts _ (List.mem_cons_of_mem _ wd_3)) hK hP hD hS hA rfl (fun j hj => by rcases (show j = 0 ∨ j = 1 ∨ j = 2 ∨ j = 3 ∨ j = 4 ∨ j = 5 ∨ j = 6 ∨ j = 7 ∨ j = 8 ∨ j = 9 ∨ j = 10 ∨ j = 11 ∨ j = 12 ∨ j = 13 by omega) with rfl | rfl | rfl | rfl | rfl | rfl | rfl | rfl | rfl | rfl | rfl | rfl | rfl | rfl <;> rfl) (Nat.le_of_ble_eq_true rfl) (Nat.le_of_ble_eq_true rfl) dX_init_86 (fun q86_1 H hP hD hS => ?_)
  have hP : va_P (dC, dI) vwCl [(h0, .inr (2, [.int (if 1 < (if slice < 20 then slice else 20) then (if slice < 20 then slice else 20) else 1), .int (if 1 < (if ceiling < 31 then ceiling else 31) then (if ceiling < 31 then ceiling else 31) else 1), .ref q7, .ref q15, .ref q22, .ref q29, .int 0, .long 0])), (q7, .inl (c7, 8, .inr (.inr (.inr (.inr (va_up (fun _ => none) 0 (some q86))))))), (q15, .inl (c15, 4, .inl (fun _ => 0))), (q22, .inl (c22, 2, .inl (fun _ => 0))), (q29, .inl (c29, 2, .inr (.inr (.inr (.inr (fun _ => none)))))), (q86, .inr (1, [.int 0, .int 0, .int 1, .int 1, .int 0, .int 0, .int 0, .long 0, .int 0, .long 1000000000000, .int 0, .int 0, .int 0, .int 0])), (q86_1, .inr (1, [.int 0, .int 0, .int 0, .int 0, .int 0, .int 0, .int 0, .long 0, .int 0, .long 0, .int 0, .int 0, .int 0, .int 0]))] H := hP
  have hD : va_D A [(h0, .inr (2, [.int (if 1 < (if slice < 20 then slice else 20) then (if slice < 20 then slice else 20) else 1), .int (if 1 < (if ceiling < 31 then ceiling else 31) then (if ceiling < 31 then ceiling else 31) else 1), .ref q7, .ref q15, .ref q22, .ref q29, .int 0, .long 0])), (q7, .inl (c7, 8, .inr (.inr (.inr (.inr (va_up (fun _ => none) 0 (some q86))))))), (q15, .inl (c15, 4, .inl (fun _ => 0))), (q22, .inl (c22, 2, .inl (fun _ => 0))), (q29, .inl (c29, 2, .inr (.inr (.inr (.inr (fun _ => none)))))), (q86, .inr (1, [.int 0, .int 0, .int 1, .int 1, .int 0, .int 0, .int 0, .long 0, .int 0, .long 1000000000000, .int 0, .int 0, .int 0, .int 0])), (q86_1, .inr (1, [.int 0, .int 0, .int 0, .int 0, .int 0, .int 0, .int 0, .long 0, .int 0, .long 0, .int 0, .int 0, .int 0, .int 0]))] := hD
  refine W.widen (k := 6) (n := 44) (by omega) (by omega) ?_
  refine lv_dup hx hb dX_init_89 rfl ?_
  refine lv_iload_n hx hb dX_init_90 rfl (lv_at hl 0 rfl) ?_
  have hPc := hP.sub (ws' := [(q86_1, .inr (1, [.int 0, .int 0, .int 0, .int 0, .int 0, .int 0, .int 0, .long 0, .int 0, .long 0, .int 0, .int 0, .int 0, .int 0]))]) [6] rfl
  have hKc := hK.sub (tys' := []) [] rfl
  have hFc : ∀ q, q = q86_1 → A q := fun q h9 => by rw [h9]; exact hD.2 6 _ rfl
  refine va_callv (va_runI (As := [.int 1]) (rest := [.ref q86_1, .int 1, .ref q7]) ⟨hx, hb, hml, hown, hts⟩ (xc_T_init l dC dI q86_1 1) (cwI 1 hts (kn_I wd_27) rfl rfl rfl (hts _ (List.mem_cons_of_mem _ wd_3)) (hts _ (List.mem_cons_of_mem _ wd_25)) (hts _ (List.mem_cons_of_mem _ wd_26)) rfl (by decide +kernel) ⟨Nat.le_of_ble_eq_true rfl, Nat.le_of_ble_eq_true rfl⟩) ⟨kk_blind, kk_pre hPc hKc⟩ rfl rfl hl.1 rfl (lv_room (Nat.le_of_ble_eq_true rfl)) dX_init_91 ⟨Nat.le_of_ble_eq_true rfl, Nat.le_of_ble_eq_true rfl⟩) hS (fun q _ h => hFc q h) hFc (fun u t H1 locs ht hvm hw hB hz1 hk1 hS => ?_)
  have hP1 := hB.1
  rw [ht] at hP1
  have hP := kk_last (ws := [(h0, .inr (2, [.int (if 1 < (if slice < 20 then slice else 20) then (if slice < 20 then slice else 20) else 1), .int (if 1 < (if ceiling < 31 then ceiling else 31) then (if ceiling < 31 then ceiling else 31) else 1), .ref q7, .ref q15, .ref q22, .ref q29, .int 0, .long 0])), (q7, .inl (c7, 8, .inr (.inr (.inr (.inr (va_up (fun _ => none) 0 (some q86))))))), (q15, .inl (c15, 4, .inl (fun _ => 0))), (q22, .inl (c22, 2, .inl (fun _ => 0))), (q29, .inl (c29, 2, .inr (.inr (.inr (.inr (fun _ => none)))))), (q86, .inr (1, [.int 0, .int 0, .int 1, .int 1, .int 0, .int 0, .int 0, .long 0, .int 0, .long 1000000000000, .int 0, .int 0, .int 0, .int 0]))]) hP hD hk1 hP1
  have hD := kk_lastD (ws := [(h0, .inr (2, [.int (if 1 < (if slice < 20 then slice else 20) then (if slice < 20 then slice else 20) else 1), .int (if 1 < (if ceiling < 31 then ceiling else 31) then (if ceiling < 31 then ceiling else 31) else 1), .ref q7, .ref q15, .ref q22, .ref q29, .int 0, .long 0])), (q7, .inl (c7, 8, .inr (.inr (.inr (.inr (va_up (fun _ => none) 0 (some q86))))))), (q15, .inl (c15, 4, .inl (fun _ => 0))), (q22, .inl (c22, 2, .inl (fun _ => 0))), (q29, .inl (c29, 2, .inr (.inr (.inr (.inr (fun _ => none)))))), (q86, .inr (1, [.int 0, .int 0, .int 1, .int 1, .int 0, .int 0, .int 0, .long 0, .int 0, .long 1000000000000, .int 0, .int 0, .int 0, .int 0]))]) (e2 := .inr (1, [.int 1, .int 0, .int 1, .int 1, .int 0, .int 0, .int 0, .long 0, .int 0, .long 1000000000000, .int 0, .int 0, .int 0, .int 0])) hD
  generalize H1 = H at hP hS ⊢
  have hP : va_P (dC, dI) vwCl [(h0, .inr (2, [.int (if 1 < (if slice < 20 then slice else 20) then (if slice < 20 then slice else 20) else 1), .int (if 1 < (if ceiling < 31 then ceiling else 31) then (if ceiling < 31 then ceiling else 31) else 1), .ref q7, .ref q15, .ref q22, .ref q29, .int 0, .long 0])), (q7, .inl (c7, 8, .inr (.inr (.inr (.inr (va_up (fun _ => none) 0 (some q86))))))), (q15, .inl (c15, 4, .inl (fun _ => 0))), (q22, .inl (c22, 2, .inl (fun _ => 0))), (q29, .inl (c29, 2, .inr (.inr (.inr (.inr (fun _ => none)))))), (q86, .inr (1, [.int 0, .int 0, .int 1, .int 1, .int 0, .int 0, .int 0, .long 0, .int 0, .long 1000000000000, .int 0, .int 0, .int 0, .int 0])), (q86_1, .inr (1, [.int 1, .int 0, .int 1, .int 1, .int 0, .int 0, .int 0, .long 0, .int 0, .long 1000000000000, .int 0, .int 0, .int 0, .int 0]))] H := hP
  have hD : va_D A [(h0, .inr (2, [.int (if 1 < (if slice < 20 then slice else 20) then (if slice < 20 then slice else 20) else 1), .int (if 1 < (if ceiling < 31 then ceiling else 31) then (if ceiling < 31 then ceiling else 31) else 1), .ref q7, .ref q15, .ref q22, .ref q29, .int 0, .long 0])), (q7, .inl (c7, 8, .inr (.inr (.inr (.inr (va_up (fun _ => none) 0 (some q86))))))), (q15, .inl (c15, 4, .inl (fun _ => 0))), (q22, .inl (c22, 2, .inl (fun _ => 0))), (q29, .inl (c29, 2, .inr (.inr (.inr (.inr (fun _ => none)))))), (q86, .inr (1, [.int 0, .int 0, .int 1, .int 1, .int 0, .int 0, .int 0, .long 0, .int 0, .long 1000000000000, .int 0, .int 0, .int 0, .int 0])), (q86_1, .inr (1, [.int 1, .int 0, .int 1, .int 1, .int 0, .int 0, .int 0, .long 0, .int 0, .long 1000000000000, .int 0, .int 0, .int 0, .int 0]))] := hD
  refine W.widen (k := 6) (n := 44) (by omega) (by omega) ?_
  refine va_astq hx hb hK hP hD hS 1 0 6 1 rfl rfl rfl rfl (kk_inl (by decide)) dX_init_94 (fun H locs hP hD hS => ?_)
  rw [kk_c1] at hP hD
  have hP : va_P (dC, dI) vwCl [(h0, .inr (2, [.int (if 1 < (if slice < 20 then slice else 20) then (if slice < 20 then slice else 20) else 1), .int (if 1 < (if ceiling < 31 then ceiling else 31) then (if ceiling < 31 then ceiling else 31) else 1), .ref q7, .ref q15, .ref q22, .ref q29, .int 0, .long 0])), (q7, .inl (c7, 8, .inr (.inr (.inr (.inr (va_up (va_up (fun _ => none) 0 (some q86)) 1 (some q86_1))))))), (q15, .inl (c15, 4, .inl (fun _ => 0))), (q22, .inl (c22, 2, .inl (fun _ => 0))), (q29, .inl (c29, 2, .inr (.inr (.inr (.inr (fun _ => none)))))), (q86, .inr (1, [.int 0, .int 0, .int 1, .int 1, .int 0, .int 0, .int 0, .long 0, .int 0, .long 1000000000000, .int 0, .int 0, .int 0, .int 0])), (q86_1, .inr (1, [.int 1, .int 0, .int 1, .int 1, .int 0, .int 0, .int 0, .long 0, .int 0, .long 1000000000000, .int 0, .int 0, .int 0, .int 0]))] H := hP
  have hD : va_D A [(h0, .inr (2, [.int (if 1 < (if slice < 20 then slice else 20) then (if slice < 20 then slice else 20) else 1), .int (if 1 < (if ceiling < 31 then ceiling else 31) then (if ceiling < 31 then ceiling else 31) else 1), .ref q7, .ref q15, .ref q22, .ref q29, .int 0, .long 0])), (q7, .inl (c7, 8, .inr (.inr (.inr (.inr (va_up (va_up (fun _ => none) 0 (some q86)) 1 (some q86_1))))))), (q15, .inl (c15, 4, .inl (fun _ => 0))), (q22, .inl (c22, 2, .inl (fun _ => 0))), (q29, .inl (c29, 2, .inr (.inr (.inr (.inr (fun _ => none)))))), (q86, .inr (1, [.int 0, .int 0, .int 1, .int 1, .int 0, .int 0, .int 0, .long 0, .int 0, .long 1000000000000, .int 0, .int 0, .int 0, .int 0])), (q86_1, .inr (1, [.int 1, .int 0, .int 1, .int 1, .int 0, .int 0, .int 0, .long 0, .int 0, .long 1000000000000, .int 0, .int 0, .int 0, .int 0]))] := hD
  refine lv_iinc (v := 2) (lv' := [(3, .int 2), (0, .ref h0), (1, .int slice), (2, .int ceiling)]) hx hb dX_init_95 hl (k := 0) rfl (by decide) (by decide) rfl (fun ls hl => ?_)
  refine lv_goto (tgt := 75) hx hb dX_init_98 (by decide) ?_
  refine lv_iload_n hx hb dX_init_75 rfl (lv_at hl 0 rfl) ?_
  refine lv_bipush (v := 8) hx hb dX_init_76 (by decide) ?_
  refine lv_icmp_ge (tgt := 101) hx hb dX_init_78 (by decide) (fun c9 => absurd c9 (by decide)) (fun _ => ?_)
  refine lv_aload_n hx hb dX_init_81 rfl (lv_at hl 1 rfl) ?_
  refine va_get (D := (dC, dI)) (ci := 2) (v := .ref q7) (C := R_X) (T := T_X) (N := 8) hx hb hts uw_X hown hK hP 0 rfl rfl 2 (by decide) (hts _ (List.mem_cons_of_mem _ wd_106)) (fun _ h9 => h9) rfl dX_init_82 ?_
  refine lv_iload_n hx hb dX_init_85 rfl (lv_at hl 0 rfl) ?_
  refine va_new (ci := 1) (fs := [.int 0, .int 0, .int 0, .int 0, .int 0, .int 0, .int 0, .long 0, .int 0, .long 0, .int 0, .int 0, .int 0, .int 0]) (C := R_T) (T := T_T) (N := 14) hx hb hts uw_T ty_T ty_T_ok hown (hts _ (List.mem_cons_of_mem _ wd_14)) (hts _ (List.mem_cons_of_mem _ wd_24)) (hts _ (List.mem_cons_of_mem _ wd_3)) hK hP hD hS hA rfl (fun j hj => by rcases (show j = 0 ∨ j = 1 ∨ j = 2 ∨ j = 3 ∨ j = 4 ∨ j = 5 ∨ j = 6 ∨ j = 7 ∨ j = 8 ∨ j = 9 ∨ j = 10 ∨ j = 11 ∨ j = 12 ∨ j = 13 by omega) with rfl | rfl | rfl | rfl | rfl | rfl | rfl | rfl | rfl | rfl | rfl | rfl | rfl | rfl <;> rfl) (Nat.le_of_ble_eq_true rfl) (Nat.le_of_ble_eq_true rfl) dX_init_86 (fun q86_2 H hP hD hS => ?_)
  have hP : va_P (dC, dI) vwCl [(h0, .inr (2, [.int (if 1 < (if slice < 20 then slice else 20) then (if slice < 20 then slice else 20) else 1), .int (if 1 < (if ceiling < 31 then ceiling else 31) then (if ceiling < 31 then ceiling else 31) else 1), .ref q7, .ref q15, .ref q22, .ref q29, .int 0, .long 0])), (q7, .inl (c7, 8, .inr (.inr (.inr (.inr (va_up (va_up (fun _ => none) 0 (some q86)) 1 (some q86_1))))))), (q15, .inl (c15, 4, .inl (fun _ => 0))), (q22, .inl (c22, 2, .inl (fun _ => 0))), (q29, .inl (c29, 2, .inr (.inr (.inr (.inr (fun _ => none)))))), (q86, .inr (1, [.int 0, .int 0, .int 1, .int 1, .int 0, .int 0, .int 0, .long 0, .int 0, .long 1000000000000, .int 0, .int 0, .int 0, .int 0])), (q86_1, .inr (1, [.int 1, .int 0, .int 1, .int 1, .int 0, .int 0, .int 0, .long 0, .int 0, .long 1000000000000, .int 0, .int 0, .int 0, .int 0])), (q86_2, .inr (1, [.int 0, .int 0, .int 0, .int 0, .int 0, .int 0, .int 0, .long 0, .int 0, .long 0, .int 0, .int 0, .int 0, .int 0]))] H := hP
  have hD : va_D A [(h0, .inr (2, [.int (if 1 < (if slice < 20 then slice else 20) then (if slice < 20 then slice else 20) else 1), .int (if 1 < (if ceiling < 31 then ceiling else 31) then (if ceiling < 31 then ceiling else 31) else 1), .ref q7, .ref q15, .ref q22, .ref q29, .int 0, .long 0])), (q7, .inl (c7, 8, .inr (.inr (.inr (.inr (va_up (va_up (fun _ => none) 0 (some q86)) 1 (some q86_1))))))), (q15, .inl (c15, 4, .inl (fun _ => 0))), (q22, .inl (c22, 2, .inl (fun _ => 0))), (q29, .inl (c29, 2, .inr (.inr (.inr (.inr (fun _ => none)))))), (q86, .inr (1, [.int 0, .int 0, .int 1, .int 1, .int 0, .int 0, .int 0, .long 0, .int 0, .long 1000000000000, .int 0, .int 0, .int 0, .int 0])), (q86_1, .inr (1, [.int 1, .int 0, .int 1, .int 1, .int 0, .int 0, .int 0, .long 0, .int 0, .long 1000000000000, .int 0, .int 0, .int 0, .int 0])), (q86_2, .inr (1, [.int 0, .int 0, .int 0, .int 0, .int 0, .int 0, .int 0, .long 0, .int 0, .long 0, .int 0, .int 0, .int 0, .int 0]))] := hD
  refine W.widen (k := 7) (n := 58) (by omega) (by omega) ?_
  refine lv_dup hx hb dX_init_89 rfl ?_
  refine lv_iload_n hx hb dX_init_90 rfl (lv_at hl 0 rfl) ?_
  have hPc := hP.sub (ws' := [(q86_2, .inr (1, [.int 0, .int 0, .int 0, .int 0, .int 0, .int 0, .int 0, .long 0, .int 0, .long 0, .int 0, .int 0, .int 0, .int 0]))]) [7] rfl
  have hKc := hK.sub (tys' := []) [] rfl
  have hFc : ∀ q, q = q86_2 → A q := fun q h9 => by rw [h9]; exact hD.2 7 _ rfl
  refine va_callv (va_runI (As := [.int 2]) (rest := [.ref q86_2, .int 2, .ref q7]) ⟨hx, hb, hml, hown, hts⟩ (xc_T_init l dC dI q86_2 2) (cwI 1 hts (kn_I wd_27) rfl rfl rfl (hts _ (List.mem_cons_of_mem _ wd_3)) (hts _ (List.mem_cons_of_mem _ wd_25)) (hts _ (List.mem_cons_of_mem _ wd_26)) rfl (by decide +kernel) ⟨Nat.le_of_ble_eq_true rfl, Nat.le_of_ble_eq_true rfl⟩) ⟨kk_blind, kk_pre hPc hKc⟩ rfl rfl hl.1 rfl (lv_room (Nat.le_of_ble_eq_true rfl)) dX_init_91 ⟨Nat.le_of_ble_eq_true rfl, Nat.le_of_ble_eq_true rfl⟩) hS (fun q _ h => hFc q h) hFc (fun u t H1 locs ht hvm hw hB hz1 hk1 hS => ?_)
  have hP1 := hB.1
  rw [ht] at hP1
  have hP := kk_last (ws := [(h0, .inr (2, [.int (if 1 < (if slice < 20 then slice else 20) then (if slice < 20 then slice else 20) else 1), .int (if 1 < (if ceiling < 31 then ceiling else 31) then (if ceiling < 31 then ceiling else 31) else 1), .ref q7, .ref q15, .ref q22, .ref q29, .int 0, .long 0])), (q7, .inl (c7, 8, .inr (.inr (.inr (.inr (va_up (va_up (fun _ => none) 0 (some q86)) 1 (some q86_1))))))), (q15, .inl (c15, 4, .inl (fun _ => 0))), (q22, .inl (c22, 2, .inl (fun _ => 0))), (q29, .inl (c29, 2, .inr (.inr (.inr (.inr (fun _ => none)))))), (q86, .inr (1, [.int 0, .int 0, .int 1, .int 1, .int 0, .int 0, .int 0, .long 0, .int 0, .long 1000000000000, .int 0, .int 0, .int 0, .int 0])), (q86_1, .inr (1, [.int 1, .int 0, .int 1, .int 1, .int 0, .int 0, .int 0, .long 0, .int 0, .long 1000000000000, .int 0, .int 0, .int 0, .int 0]))]) hP hD hk1 hP1
  have hD := kk_lastD (ws := [(h0, .inr (2, [.int (if 1 < (if slice < 20 then slice else 20) then (if slice < 20 then slice else 20) else 1), .int (if 1 < (if ceiling < 31 then ceiling else 31) then (if ceiling < 31 then ceiling else 31) else 1), .ref q7, .ref q15, .ref q22, .ref q29, .int 0, .long 0])), (q7, .inl (c7, 8, .inr (.inr (.inr (.inr (va_up (va_up (fun _ => none) 0 (some q86)) 1 (some q86_1))))))), (q15, .inl (c15, 4, .inl (fun _ => 0))), (q22, .inl (c22, 2, .inl (fun _ => 0))), (q29, .inl (c29, 2, .inr (.inr (.inr (.inr (fun _ => none)))))), (q86, .inr (1, [.int 0, .int 0, .int 1, .int 1, .int 0, .int 0, .int 0, .long 0, .int 0, .long 1000000000000, .int 0, .int 0, .int 0, .int 0])), (q86_1, .inr (1, [.int 1, .int 0, .int 1, .int 1, .int 0, .int 0, .int 0, .long 0, .int 0, .long 1000000000000, .int 0, .int 0, .int 0, .int 0]))]) (e2 := .inr (1, [.int 2, .int 0, .int 1, .int 1, .int 0, .int 0, .int 0, .long 0, .int 0, .long 1000000000000, .int 0, .int 0, .int 0, .int 0])) hD
  generalize H1 = H at hP hS ⊢
  have hP : va_P (dC, dI) vwCl [(h0, .inr (2, [.int (if 1 < (if slice < 20 then slice else 20) then (if slice < 20 then slice else 20) else 1), .int (if 1 < (if ceiling < 31 then ceiling else 31) then (if ceiling < 31 then ceiling else 31) else 1), .ref q7, .ref q15, .ref q22, .ref q29, .int 0, .long 0])), (q7, .inl (c7, 8, .inr (.inr (.inr (.inr (va_up (va_up (fun _ => none) 0 (some q86)) 1 (some q86_1))))))), (q15, .inl (c15, 4, .inl (fun _ => 0))), (q22, .inl (c22, 2, .inl (fun _ => 0))), (q29, .inl (c29, 2, .inr (.inr (.inr (.inr (fun _ => none)))))), (q86, .inr (1, [.int 0, .int 0, .int 1, .int 1, .int 0, .int 0, .int 0, .long 0, .int 0, .long 1000000000000, .int 0, .int 0, .int 0, .int 0])), (q86_1, .inr (1, [.int 1, .int 0, .int 1, .int 1, .int 0, .int 0, .int 0, .long 0, .int 0, .long 1000000000000, .int 0, .int 0, .int 0, .int 0])), (q86_2, .inr (1, [.int 2, .int 0, .int 1, .int 1, .int 0, .int 0, .int 0, .long 0, .int 0, .long 1000000000000, .int 0, .int 0, .int 0, .int 0]))] H := hP
  have hD : va_D A [(h0, .inr (2, [.int (if 1 < (if slice < 20 then slice else 20) then (if slice < 20 then slice else 20) else 1), .int (if 1 < (if ceiling < 31 then ceiling else 31) then (if ceiling < 31 then ceiling else 31) else 1), .ref q7, .ref q15, .ref q22, .ref q29, .int 0, .long 0])), (q7, .inl (c7, 8, .inr (.inr (.inr (.inr (va_up (va_up (fun _ => none) 0 (some q86)) 1 (some q86_1))))))), (q15, .inl (c15, 4, .inl (fun _ => 0))), (q22, .inl (c22, 2, .inl (fun _ => 0))), (q29, .inl (c29, 2, .inr (.inr (.inr (.inr (fun _ => none)))))), (q86, .inr (1, [.int 0, .int 0, .int 1, .int 1, .int 0, .int 0, .int 0, .long 0, .int 0, .long 1000000000000, .int 0, .int 0, .int 0, .int 0])), (q86_1, .inr (1, [.int 1, .int 0, .int 1, .int 1, .int 0, .int 0, .int 0, .long 0, .int 0, .long 1000000000000, .int 0, .int 0, .int 0, .int 0])), (q86_2, .inr (1, [.int 2, .int 0, .int 1, .int 1, .int 0, .int 0, .int 0, .long 0, .int 0, .long 1000000000000, .int 0, .int 0, .int 0, .int 0]))] := hD
  refine W.widen (k := 7) (n := 58) (by omega) (by omega) ?_
  refine va_astq hx hb hK hP hD hS 1 0 7 1 rfl rfl rfl rfl (kk_inl (by decide)) dX_init_94 (fun H locs hP hD hS => ?_)
  rw [kk_c2] at hP hD
  have hP : va_P (dC, dI) vwCl [(h0, .inr (2, [.int (if 1 < (if slice < 20 then slice else 20) then (if slice < 20 then slice else 20) else 1), .int (if 1 < (if ceiling < 31 then ceiling else 31) then (if ceiling < 31 then ceiling else 31) else 1), .ref q7, .ref q15, .ref q22, .ref q29, .int 0, .long 0])), (q7, .inl (c7, 8, .inr (.inr (.inr (.inr (va_up (va_up (va_up (fun _ => none) 0 (some q86)) 1 (some q86_1)) 2 (some q86_2))))))), (q15, .inl (c15, 4, .inl (fun _ => 0))), (q22, .inl (c22, 2, .inl (fun _ => 0))), (q29, .inl (c29, 2, .inr (.inr (.inr (.inr (fun _ => none)))))), (q86, .inr (1, [.int 0, .int 0, .int 1, .int 1, .int 0, .int 0, .int 0, .long 0, .int 0, .long 1000000000000, .int 0, .int 0, .int 0, .int 0])), (q86_1, .inr (1, [.int 1, .int 0, .int 1, .int 1, .int 0, .int 0, .int 0, .long 0, .int 0, .long 1000000000000, .int 0, .int 0, .int 0, .int 0])), (q86_2, .inr (1, [.int 2, .int 0, .int 1, .int 1, .int 0, .int 0, .int 0, .long 0, .int 0, .long 1000000000000, .int 0, .int 0, .int 0, .int 0]))] H := hP
  have hD : va_D A [(h0, .inr (2, [.int (if 1 < (if slice < 20 then slice else 20) then (if slice < 20 then slice else 20) else 1), .int (if 1 < (if ceiling < 31 then ceiling else 31) then (if ceiling < 31 then ceiling else 31) else 1), .ref q7, .ref q15, .ref q22, .ref q29, .int 0, .long 0])), (q7, .inl (c7, 8, .inr (.inr (.inr (.inr (va_up (va_up (va_up (fun _ => none) 0 (some q86)) 1 (some q86_1)) 2 (some q86_2))))))), (q15, .inl (c15, 4, .inl (fun _ => 0))), (q22, .inl (c22, 2, .inl (fun _ => 0))), (q29, .inl (c29, 2, .inr (.inr (.inr (.inr (fun _ => none)))))), (q86, .inr (1, [.int 0, .int 0, .int 1, .int 1, .int 0, .int 0, .int 0, .long 0, .int 0, .long 1000000000000, .int 0, .int 0, .int 0, .int 0])), (q86_1, .inr (1, [.int 1, .int 0, .int 1, .int 1, .int 0, .int 0, .int 0, .long 0, .int 0, .long 1000000000000, .int 0, .int 0, .int 0, .int 0])), (q86_2, .inr (1, [.int 2, .int 0, .int 1, .int 1, .int 0, .int 0, .int 0, .long 0, .int 0, .long 1000000000000, .int 0, .int 0, .int 0, .int 0]))] := hD
  refine lv_iinc (v := 3) (lv' := [(3, .int 3), (0, .ref h0), (1, .int slice), (2, .int ceiling)]) hx hb dX_init_95 hl (k := 0) rfl (by decide) (by decide) rfl (fun ls hl => ?_)
  refine lv_goto (tgt := 75) hx hb dX_init_98 (by decide) ?_
  refine lv_iload_n hx hb dX_init_75 rfl (lv_at hl 0 rfl) ?_
  refine lv_bipush (v := 8) hx hb dX_init_76 (by decide) ?_
  refine lv_icmp_ge (tgt := 101) hx hb dX_init_78 (by decide) (fun c9 => absurd c9 (by decide)) (fun _ => ?_)
  refine lv_aload_n hx hb dX_init_81 rfl (lv_at hl 1 rfl) ?_
  refine va_get (D := (dC, dI)) (ci := 2) (v := .ref q7) (C := R_X) (T := T_X) (N := 8) hx hb hts uw_X hown hK hP 0 rfl rfl 2 (by decide) (hts _ (List.mem_cons_of_mem _ wd_106)) (fun _ h9 => h9) rfl dX_init_82 ?_
  refine lv_iload_n hx hb dX_init_85 rfl (lv_at hl 0 rfl) ?_
  refine va_new (ci := 1) (fs := [.int 0, .int 0, .int 0, .int 0, .int 0, .int 0, .int 0, .long 0, .int 0, .long 0, .int 0, .int 0, .int 0, .int 0]) (C := R_T) (T := T_T) (N := 14) hx hb hts uw_T ty_T ty_T_ok hown (hts _ (List.mem_cons_of_mem _ wd_14)) (hts _ (List.mem_cons_of_mem _ wd_24)) (hts _ (List.mem_cons_of_mem _ wd_3)) hK hP hD hS hA rfl (fun j hj => by rcases (show j = 0 ∨ j = 1 ∨ j = 2 ∨ j = 3 ∨ j = 4 ∨ j = 5 ∨ j = 6 ∨ j = 7 ∨ j = 8 ∨ j = 9 ∨ j = 10 ∨ j = 11 ∨ j = 12 ∨ j = 13 by omega) with rfl | rfl | rfl | rfl | rfl | rfl | rfl | rfl | rfl | rfl | rfl | rfl | rfl | rfl <;> rfl) (Nat.le_of_ble_eq_true rfl) (Nat.le_of_ble_eq_true rfl) dX_init_86 (fun q86_3 H hP hD hS => ?_)
  have hP : va_P (dC, dI) vwCl [(h0, .inr (2, [.int (if 1 < (if slice < 20 then slice else 20) then (if slice < 20 then slice else 20) else 1), .int (if 1 < (if ceiling < 31 then ceiling else 31) then (if ceiling < 31 then ceiling else 31) else 1), .ref q7, .ref q15, .ref q22, .ref q29, .int 0, .long 0])), (q7, .inl (c7, 8, .inr (.inr (.inr (.inr (va_up (va_up (va_up (fun _ => none) 0 (some q86)) 1 (some q86_1)) 2 (some q86_2))))))), (q15, .inl (c15, 4, .inl (fun _ => 0))), (q22, .inl (c22, 2, .inl (fun _ => 0))), (q29, .inl (c29, 2, .inr (.inr (.inr (.inr (fun _ => none)))))), (q86, .inr (1, [.int 0, .int 0, .int 1, .int 1, .int 0, .int 0, .int 0, .long 0, .int 0, .long 1000000000000, .int 0, .int 0, .int 0, .int 0])), (q86_1, .inr (1, [.int 1, .int 0, .int 1, .int 1, .int 0, .int 0, .int 0, .long 0, .int 0, .long 1000000000000, .int 0, .int 0, .int 0, .int 0])), (q86_2, .inr (1, [.int 2, .int 0, .int 1, .int 1, .int 0, .int 0, .int 0, .long 0, .int 0, .long 1000000000000, .int 0, .int 0, .int 0, .int 0])), (q86_3, .inr (1, [.int 0, .int 0, .int 0, .int 0, .int 0, .int 0, .int 0, .long 0, .int 0, .long 0, .int 0, .int 0, .int 0, .int 0]))] H := hP
  have hD : va_D A [(h0, .inr (2, [.int (if 1 < (if slice < 20 then slice else 20) then (if slice < 20 then slice else 20) else 1), .int (if 1 < (if ceiling < 31 then ceiling else 31) then (if ceiling < 31 then ceiling else 31) else 1), .ref q7, .ref q15, .ref q22, .ref q29, .int 0, .long 0])), (q7, .inl (c7, 8, .inr (.inr (.inr (.inr (va_up (va_up (va_up (fun _ => none) 0 (some q86)) 1 (some q86_1)) 2 (some q86_2))))))), (q15, .inl (c15, 4, .inl (fun _ => 0))), (q22, .inl (c22, 2, .inl (fun _ => 0))), (q29, .inl (c29, 2, .inr (.inr (.inr (.inr (fun _ => none)))))), (q86, .inr (1, [.int 0, .int 0, .int 1, .int 1, .int 0, .int 0, .int 0, .long 0, .int 0, .long 1000000000000, .int 0, .int 0, .int 0, .int 0])), (q86_1, .inr (1, [.int 1, .int 0, .int 1, .int 1, .int 0, .int 0, .int 0, .long 0, .int 0, .long 1000000000000, .int 0, .int 0, .int 0, .int 0])), (q86_2, .inr (1, [.int 2, .int 0, .int 1, .int 1, .int 0, .int 0, .int 0, .long 0, .int 0, .long 1000000000000, .int 0, .int 0, .int 0, .int 0])), (q86_3, .inr (1, [.int 0, .int 0, .int 0, .int 0, .int 0, .int 0, .int 0, .long 0, .int 0, .long 0, .int 0, .int 0, .int 0, .int 0]))] := hD
  refine W.widen (k := 8) (n := 72) (by omega) (by omega) ?_
  refine lv_dup hx hb dX_init_89 rfl ?_
  refine lv_iload_n hx hb dX_init_90 rfl (lv_at hl 0 rfl) ?_
  have hPc := hP.sub (ws' := [(q86_3, .inr (1, [.int 0, .int 0, .int 0, .int 0, .int 0, .int 0, .int 0, .long 0, .int 0, .long 0, .int 0, .int 0, .int 0, .int 0]))]) [8] rfl
  have hKc := hK.sub (tys' := []) [] rfl
  have hFc : ∀ q, q = q86_3 → A q := fun q h9 => by rw [h9]; exact hD.2 8 _ rfl
  refine va_callv (va_runI (As := [.int 3]) (rest := [.ref q86_3, .int 3, .ref q7]) ⟨hx, hb, hml, hown, hts⟩ (xc_T_init l dC dI q86_3 3) (cwI 1 hts (kn_I wd_27) rfl rfl rfl (hts _ (List.mem_cons_of_mem _ wd_3)) (hts _ (List.mem_cons_of_mem _ wd_25)) (hts _ (List.mem_cons_of_mem _ wd_26)) rfl (by decide +kernel) ⟨Nat.le_of_ble_eq_true rfl, Nat.le_of_ble_eq_true rfl⟩) ⟨kk_blind, kk_pre hPc hKc⟩ rfl rfl hl.1 rfl (lv_room (Nat.le_of_ble_eq_true rfl)) dX_init_91 ⟨Nat.le_of_ble_eq_true rfl, Nat.le_of_ble_eq_true rfl⟩) hS (fun q _ h => hFc q h) hFc (fun u t H1 locs ht hvm hw hB hz1 hk1 hS => ?_)
  have hP1 := hB.1
  rw [ht] at hP1
  have hP := kk_last (ws := [(h0, .inr (2, [.int (if 1 < (if slice < 20 then slice else 20) then (if slice < 20 then slice else 20) else 1), .int (if 1 < (if ceiling < 31 then ceiling else 31) then (if ceiling < 31 then ceiling else 31) else 1), .ref q7, .ref q15, .ref q22, .ref q29, .int 0, .long 0])), (q7, .inl (c7, 8, .inr (.inr (.inr (.inr (va_up (va_up (va_up (fun _ => none) 0 (some q86)) 1 (some q86_1)) 2 (some q86_2))))))), (q15, .inl (c15, 4, .inl (fun _ => 0))), (q22, .inl (c22, 2, .inl (fun _ => 0))), (q29, .inl (c29, 2, .inr (.inr (.inr (.inr (fun _ => none)))))), (q86, .inr (1, [.int 0, .int 0, .int 1, .int 1, .int 0, .int 0, .int 0, .long 0, .int 0, .long 1000000000000, .int 0, .int 0, .int 0, .int 0])), (q86_1, .inr (1, [.int 1, .int 0, .int 1, .int 1, .int 0, .int 0, .int 0, .long 0, .int 0, .long 1000000000000, .int 0, .int 0, .int 0, .int 0])), (q86_2, .inr (1, [.int 2, .int 0, .int 1, .int 1, .int 0, .int 0, .int 0, .long 0, .int 0, .long 1000000000000, .int 0, .int 0, .int 0, .int 0]))]) hP hD hk1 hP1
  have hD := kk_lastD (ws := [(h0, .inr (2, [.int (if 1 < (if slice < 20 then slice else 20) then (if slice < 20 then slice else 20) else 1), .int (if 1 < (if ceiling < 31 then ceiling else 31) then (if ceiling < 31 then ceiling else 31) else 1), .ref q7, .ref q15, .ref q22, .ref q29, .int 0, .long 0])), (q7, .inl (c7, 8, .inr (.inr (.inr (.inr (va_up (va_up (va_up (fun _ => none) 0 (some q86)) 1 (some q86_1)) 2 (some q86_2))))))), (q15, .inl (c15, 4, .inl (fun _ => 0))), (q22, .inl (c22, 2, .inl (fun _ => 0))), (q29, .inl (c29, 2, .inr (.inr (.inr (.inr (fun _ => none)))))), (q86, .inr (1, [.int 0, .int 0, .int 1, .int 1, .int 0, .int 0, .int 0, .long 0, .int 0, .long 1000000000000, .int 0, .int 0, .int 0, .int 0])), (q86_1, .inr (1, [.int 1, .int 0, .int 1, .int 1, .int 0, .int 0, .int 0, .long 0, .int 0, .long 1000000000000, .int 0, .int 0, .int 0, .int 0])), (q86_2, .inr (1, [.int 2, .int 0, .int 1, .int 1, .int 0, .int 0, .int 0, .long 0, .int 0, .long 1000000000000, .int 0, .int 0, .int 0, .int 0]))]) (e2 := .inr (1, [.int 3, .int 0, .int 1, .int 1, .int 0, .int 0, .int 0, .long 0, .int 0, .long 1000000000000, .int 0, .int 0, .int 0, .int 0])) hD
  generalize H1 = H at hP hS ⊢
  have hP : va_P (dC, dI) vwCl [(h0, .inr (2, [.int (if 1 < (if slice < 20 then slice else 20) then (if slice < 20 then slice else 20) else 1), .int (if 1 < (if ceiling < 31 then ceiling else 31) then (if ceiling < 31 then ceiling else 31) else 1), .ref q7, .ref q15, .ref q22, .ref q29, .int 0, .long 0])), (q7, .inl (c7, 8, .inr (.inr (.inr (.inr (va_up (va_up (va_up (fun _ => none) 0 (some q86)) 1 (some q86_1)) 2 (some q86_2))))))), (q15, .inl (c15, 4, .inl (fun _ => 0))), (q22, .inl (c22, 2, .inl (fun _ => 0))), (q29, .inl (c29, 2, .inr (.inr (.inr (.inr (fun _ => none)))))), (q86, .inr (1, [.int 0, .int 0, .int 1, .int 1, .int 0, .int 0, .int 0, .long 0, .int 0, .long 1000000000000, .int 0, .int 0, .int 0, .int 0])), (q86_1, .inr (1, [.int 1, .int 0, .int 1, .int 1, .int 0, .int 0, .int 0, .long 0, .int 0, .long 1000000000000, .int 0, .int 0, .int 0, .int 0])), (q86_2, .inr (1, [.int 2, .int 0, .int 1, .int 1, .int 0, .int 0, .int 0, .long 0, .int 0, .long 1000000000000, .int 0, .int 0, .int 0, .int 0])), (q86_3, .inr (1, [.int 3, .int 0, .int 1, .int 1, .int 0, .int 0, .int 0, .long 0, .int 0, .long 1000000000000, .int 0, .int 0, .int 0, .int 0]))] H := hP
  have hD : va_D A [(h0, .inr (2, [.int (if 1 < (if slice < 20 then slice else 20) then (if slice < 20 then slice else 20) else 1), .int (if 1 < (if ceiling < 31 then ceiling else 31) then (if ceiling < 31 then ceiling else 31) else 1), .ref q7, .ref q15, .ref q22, .ref q29, .int 0, .long 0])), (q7, .inl (c7, 8, .inr (.inr (.inr (.inr (va_up (va_up (va_up (fun _ => none) 0 (some q86)) 1 (some q86_1)) 2 (some q86_2))))))), (q15, .inl (c15, 4, .inl (fun _ => 0))), (q22, .inl (c22, 2, .inl (fun _ => 0))), (q29, .inl (c29, 2, .inr (.inr (.inr (.inr (fun _ => none)))))), (q86, .inr (1, [.int 0, .int 0, .int 1, .int 1, .int 0, .int 0, .int 0, .long 0, .int 0, .long 1000000000000, .int 0, .int 0, .int 0, .int 0])), (q86_1, .inr (1, [.int 1, .int 0, .int 1, .int 1, .int 0, .int 0, .int 0, .long 0, .int 0, .long 1000000000000, .int 0, .int 0, .int 0, .int 0])), (q86_2, .inr (1, [.int 2, .int 0, .int 1, .int 1, .int 0, .int 0, .int 0, .long 0, .int 0, .long 1000000000000, .int 0, .int 0, .int 0, .int 0])), (q86_3, .inr (1, [.int 3, .int 0, .int 1, .int 1, .int 0, .int 0, .int 0, .long 0, .int 0, .long 1000000000000, .int 0, .int 0, .int 0, .int 0]))] := hD
  refine W.widen (k := 8) (n := 72) (by omega) (by omega) ?_
  refine va_astq hx hb hK hP hD hS 1 0 8 1 rfl rfl rfl rfl (kk_inl (by decide)) dX_init_94 (fun H locs hP hD hS => ?_)
  rw [kk_c3] at hP hD
  have hP : va_P (dC, dI) vwCl [(h0, .inr (2, [.int (if 1 < (if slice < 20 then slice else 20) then (if slice < 20 then slice else 20) else 1), .int (if 1 < (if ceiling < 31 then ceiling else 31) then (if ceiling < 31 then ceiling else 31) else 1), .ref q7, .ref q15, .ref q22, .ref q29, .int 0, .long 0])), (q7, .inl (c7, 8, .inr (.inr (.inr (.inr (va_up (va_up (va_up (va_up (fun _ => none) 0 (some q86)) 1 (some q86_1)) 2 (some q86_2)) 3 (some q86_3))))))), (q15, .inl (c15, 4, .inl (fun _ => 0))), (q22, .inl (c22, 2, .inl (fun _ => 0))), (q29, .inl (c29, 2, .inr (.inr (.inr (.inr (fun _ => none)))))), (q86, .inr (1, [.int 0, .int 0, .int 1, .int 1, .int 0, .int 0, .int 0, .long 0, .int 0, .long 1000000000000, .int 0, .int 0, .int 0, .int 0])), (q86_1, .inr (1, [.int 1, .int 0, .int 1, .int 1, .int 0, .int 0, .int 0, .long 0, .int 0, .long 1000000000000, .int 0, .int 0, .int 0, .int 0])), (q86_2, .inr (1, [.int 2, .int 0, .int 1, .int 1, .int 0, .int 0, .int 0, .long 0, .int 0, .long 1000000000000, .int 0, .int 0, .int 0, .int 0])), (q86_3, .inr (1, [.int 3, .int 0, .int 1, .int 1, .int 0, .int 0, .int 0, .long 0, .int 0, .long 1000000000000, .int 0, .int 0, .int 0, .int 0]))] H := hP
  have hD : va_D A [(h0, .inr (2, [.int (if 1 < (if slice < 20 then slice else 20) then (if slice < 20 then slice else 20) else 1), .int (if 1 < (if ceiling < 31 then ceiling else 31) then (if ceiling < 31 then ceiling else 31) else 1), .ref q7, .ref q15, .ref q22, .ref q29, .int 0, .long 0])), (q7, .inl (c7, 8, .inr (.inr (.inr (.inr (va_up (va_up (va_up (va_up (fun _ => none) 0 (some q86)) 1 (some q86_1)) 2 (some q86_2)) 3 (some q86_3))))))), (q15, .inl (c15, 4, .inl (fun _ => 0))), (q22, .inl (c22, 2, .inl (fun _ => 0))), (q29, .inl (c29, 2, .inr (.inr (.inr (.inr (fun _ => none)))))), (q86, .inr (1, [.int 0, .int 0, .int 1, .int 1, .int 0, .int 0, .int 0, .long 0, .int 0, .long 1000000000000, .int 0, .int 0, .int 0, .int 0])), (q86_1, .inr (1, [.int 1, .int 0, .int 1, .int 1, .int 0, .int 0, .int 0, .long 0, .int 0, .long 1000000000000, .int 0, .int 0, .int 0, .int 0])), (q86_2, .inr (1, [.int 2, .int 0, .int 1, .int 1, .int 0, .int 0, .int 0, .long 0, .int 0, .long 1000000000000, .int 0, .int 0, .int 0, .int 0])), (q86_3, .inr (1, [.int 3, .int 0, .int 1, .int 1, .int 0, .int 0, .int 0, .long 0, .int 0, .long 1000000000000, .int 0, .int 0, .int 0, .int 0]))] := hD
  refine lv_iinc (v := 4) (lv' := [(3, .int 4), (0, .ref h0), (1, .int slice), (2, .int ceiling)]) hx hb dX_init_95 hl (k := 0) rfl (by decide) (by decide) rfl (fun ls hl => ?_)
  refine lv_goto (tgt := 75) hx hb dX_init_98 (by decide) ?_
  refine lv_iload_n hx hb dX_init_75 rfl (lv_at hl 0 rfl) ?_
  refine lv_bipush (v := 8) hx hb dX_init_76 (by decide) ?_
  refine lv_icmp_ge (tgt := 101) hx hb dX_init_78 (by decide) (fun c9 => absurd c9 (by decide)) (fun _ => ?_)
  refine lv_aload_n hx hb dX_init_81 rfl (lv_at hl 1 rfl) ?_
  refine va_get (D := (dC, dI)) (ci := 2) (v := .ref q7) (C := R_X) (T := T_X) (N := 8) hx hb hts uw_X hown hK hP 0 rfl rfl 2 (by decide) (hts _ (List.mem_cons_of_mem _ wd_106)) (fun _ h9 => h9) rfl dX_init_82 ?_
  refine lv_iload_n hx hb dX_init_85 rfl (lv_at hl 0 rfl) ?_
  refine va_new (ci := 1) (fs := [.int 0, .int 0, .int 0, .int 0, .int 0, .int 0, .int 0, .long 0, .int 0, .long 0, .int 0, .int 0, .int 0, .int 0]) (C := R_T) (T := T_T) (N := 14) hx hb hts uw_T ty_T ty_T_ok hown (hts _ (List.mem_cons_of_mem _ wd_14)) (hts _ (List.mem_cons_of_mem _ wd_24)) (hts _ (List.mem_cons_of_mem _ wd_3)) hK hP hD hS hA rfl (fun j hj => by rcases (show j = 0 ∨ j = 1 ∨ j = 2 ∨ j = 3 ∨ j = 4 ∨ j = 5 ∨ j = 6 ∨ j = 7 ∨ j = 8 ∨ j = 9 ∨ j = 10 ∨ j = 11 ∨ j = 12 ∨ j = 13 by omega) with rfl | rfl | rfl | rfl | rfl | rfl | rfl | rfl | rfl | rfl | rfl | rfl | rfl | rfl <;> rfl) (Nat.le_of_ble_eq_true rfl) (Nat.le_of_ble_eq_true rfl) dX_init_86 (fun q86_4 H hP hD hS => ?_)
  have hP : va_P (dC, dI) vwCl [(h0, .inr (2, [.int (if 1 < (if slice < 20 then slice else 20) then (if slice < 20 then slice else 20) else 1), .int (if 1 < (if ceiling < 31 then ceiling else 31) then (if ceiling < 31 then ceiling else 31) else 1), .ref q7, .ref q15, .ref q22, .ref q29, .int 0, .long 0])), (q7, .inl (c7, 8, .inr (.inr (.inr (.inr (va_up (va_up (va_up (va_up (fun _ => none) 0 (some q86)) 1 (some q86_1)) 2 (some q86_2)) 3 (some q86_3))))))), (q15, .inl (c15, 4, .inl (fun _ => 0))), (q22, .inl (c22, 2, .inl (fun _ => 0))), (q29, .inl (c29, 2, .inr (.inr (.inr (.inr (fun _ => none)))))), (q86, .inr (1, [.int 0, .int 0, .int 1, .int 1, .int 0, .int 0, .int 0, .long 0, .int 0, .long 1000000000000, .int 0, .int 0, .int 0, .int 0])), (q86_1, .inr (1, [.int 1, .int 0, .int 1, .int 1, .int 0, .int 0, .int 0, .long 0, .int 0, .long 1000000000000, .int 0, .int 0, .int 0, .int 0])), (q86_2, .inr (1, [.int 2, .int 0, .int 1, .int 1, .int 0, .int 0, .int 0, .long 0, .int 0, .long 1000000000000, .int 0, .int 0, .int 0, .int 0])), (q86_3, .inr (1, [.int 3, .int 0, .int 1, .int 1, .int 0, .int 0, .int 0, .long 0, .int 0, .long 1000000000000, .int 0, .int 0, .int 0, .int 0])), (q86_4, .inr (1, [.int 0, .int 0, .int 0, .int 0, .int 0, .int 0, .int 0, .long 0, .int 0, .long 0, .int 0, .int 0, .int 0, .int 0]))] H := hP
  have hD : va_D A [(h0, .inr (2, [.int (if 1 < (if slice < 20 then slice else 20) then (if slice < 20 then slice else 20) else 1), .int (if 1 < (if ceiling < 31 then ceiling else 31) then (if ceiling < 31 then ceiling else 31) else 1), .ref q7, .ref q15, .ref q22, .ref q29, .int 0, .long 0])), (q7, .inl (c7, 8, .inr (.inr (.inr (.inr (va_up (va_up (va_up (va_up (fun _ => none) 0 (some q86)) 1 (some q86_1)) 2 (some q86_2)) 3 (some q86_3))))))), (q15, .inl (c15, 4, .inl (fun _ => 0))), (q22, .inl (c22, 2, .inl (fun _ => 0))), (q29, .inl (c29, 2, .inr (.inr (.inr (.inr (fun _ => none)))))), (q86, .inr (1, [.int 0, .int 0, .int 1, .int 1, .int 0, .int 0, .int 0, .long 0, .int 0, .long 1000000000000, .int 0, .int 0, .int 0, .int 0])), (q86_1, .inr (1, [.int 1, .int 0, .int 1, .int 1, .int 0, .int 0, .int 0, .long 0, .int 0, .long 1000000000000, .int 0, .int 0, .int 0, .int 0])), (q86_2, .inr (1, [.int 2, .int 0, .int 1, .int 1, .int 0, .int 0, .int 0, .long 0, .int 0, .long 1000000000000, .int 0, .int 0, .int 0, .int 0])), (q86_3, .inr (1, [.int 3, .int 0, .int 1, .int 1, .int 0, .int 0, .int 0, .long 0, .int 0, .long 1000000000000, .int 0, .int 0, .int 0, .int 0])), (q86_4, .inr (1, [.int 0, .int 0, .int 0, .int 0, .int 0, .int 0, .int 0, .long 0, .int 0, .long 0, .int 0, .int 0, .int 0, .int 0]))] := hD
  refine W.widen (k := 9) (n := 86) (by omega) (by omega) ?_
  refine lv_dup hx hb dX_init_89 rfl ?_
  refine lv_iload_n hx hb dX_init_90 rfl (lv_at hl 0 rfl) ?_
  have hPc := hP.sub (ws' := [(q86_4, .inr (1, [.int 0, .int 0, .int 0, .int 0, .int 0, .int 0, .int 0, .long 0, .int 0, .long 0, .int 0, .int 0, .int 0, .int 0]))]) [9] rfl
  have hKc := hK.sub (tys' := []) [] rfl
  have hFc : ∀ q, q = q86_4 → A q := fun q h9 => by rw [h9]; exact hD.2 9 _ rfl
  refine va_callv (va_runI (As := [.int 4]) (rest := [.ref q86_4, .int 4, .ref q7]) ⟨hx, hb, hml, hown, hts⟩ (xc_T_init l dC dI q86_4 4) (cwI 1 hts (kn_I wd_27) rfl rfl rfl (hts _ (List.mem_cons_of_mem _ wd_3)) (hts _ (List.mem_cons_of_mem _ wd_25)) (hts _ (List.mem_cons_of_mem _ wd_26)) rfl (by decide +kernel) ⟨Nat.le_of_ble_eq_true rfl, Nat.le_of_ble_eq_true rfl⟩) ⟨kk_blind, kk_pre hPc hKc⟩ rfl rfl hl.1 rfl (lv_room (Nat.le_of_ble_eq_true rfl)) dX_init_91 ⟨Nat.le_of_ble_eq_true rfl, Nat.le_of_ble_eq_true rfl⟩) hS (fun q _ h => hFc q h) hFc (fun u t H1 locs ht hvm hw hB hz1 hk1 hS => ?_)
  have hP1 := hB.1
  rw [ht] at hP1
  have hP := kk_last (ws := [(h0, .inr (2, [.int (if 1 < (if slice < 20 then slice else 20) then (if slice < 20 then slice else 20) else 1), .int (if 1 < (if ceiling < 31 then ceiling else 31) then (if ceiling < 31 then ceiling else 31) else 1), .ref q7, .ref q15, .ref q22, .ref q29, .int 0, .long 0])), (q7, .inl (c7, 8, .inr (.inr (.inr (.inr (va_up (va_up (va_up (va_up (fun _ => none) 0 (some q86)) 1 (some q86_1)) 2 (some q86_2)) 3 (some q86_3))))))), (q15, .inl (c15, 4, .inl (fun _ => 0))), (q22, .inl (c22, 2, .inl (fun _ => 0))), (q29, .inl (c29, 2, .inr (.inr (.inr (.inr (fun _ => none)))))), (q86, .inr (1, [.int 0, .int 0, .int 1, .int 1, .int 0, .int 0, .int 0, .long 0, .int 0, .long 1000000000000, .int 0, .int 0, .int 0, .int 0])), (q86_1, .inr (1, [.int 1, .int 0, .int 1, .int 1, .int 0, .int 0, .int 0, .long 0, .int 0, .long 1000000000000, .int 0, .int 0, .int 0, .int 0])), (q86_2, .inr (1, [.int 2, .int 0, .int 1, .int 1, .int 0, .int 0, .int 0, .long 0, .int 0, .long 1000000000000, .int 0, .int 0, .int 0, .int 0])), (q86_3, .inr (1, [.int 3, .int 0, .int 1, .int 1, .int 0, .int 0, .int 0, .long 0, .int 0, .long 1000000000000, .int 0, .int 0, .int 0, .int 0]))]) hP hD hk1 hP1
  have hD := kk_lastD (ws := [(h0, .inr (2, [.int (if 1 < (if slice < 20 then slice else 20) then (if slice < 20 then slice else 20) else 1), .int (if 1 < (if ceiling < 31 then ceiling else 31) then (if ceiling < 31 then ceiling else 31) else 1), .ref q7, .ref q15, .ref q22, .ref q29, .int 0, .long 0])), (q7, .inl (c7, 8, .inr (.inr (.inr (.inr (va_up (va_up (va_up (va_up (fun _ => none) 0 (some q86)) 1 (some q86_1)) 2 (some q86_2)) 3 (some q86_3))))))), (q15, .inl (c15, 4, .inl (fun _ => 0))), (q22, .inl (c22, 2, .inl (fun _ => 0))), (q29, .inl (c29, 2, .inr (.inr (.inr (.inr (fun _ => none)))))), (q86, .inr (1, [.int 0, .int 0, .int 1, .int 1, .int 0, .int 0, .int 0, .long 0, .int 0, .long 1000000000000, .int 0, .int 0, .int 0, .int 0])), (q86_1, .inr (1, [.int 1, .int 0, .int 1, .int 1, .int 0, .int 0, .int 0, .long 0, .int 0, .long 1000000000000, .int 0, .int 0, .int 0, .int 0])), (q86_2, .inr (1, [.int 2, .int 0, .int 1, .int 1, .int 0, .int 0, .int 0, .long 0, .int 0, .long 1000000000000, .int 0, .int 0, .int 0, .int 0])), (q86_3, .inr (1, [.int 3, .int 0, .int 1, .int 1, .int 0, .int 0, .int 0, .long 0, .int 0, .long 1000000000000, .int 0, .int 0, .int 0, .int 0]))]) (e2 := .inr (1, [.int 4, .int 0, .int 1, .int 1, .int 0, .int 0, .int 0, .long 0, .int 0, .long 1000000000000, .int 0, .int 0, .int 0, .int 0])) hD
  generalize H1 = H at hP hS ⊢
  have hP : va_P (dC, dI) vwCl [(h0, .inr (2, [.int (if 1 < (if slice < 20 then slice else 20) then (if slice < 20 then slice else 20) else 1), .int (if 1 < (if ceiling < 31 then ceiling else 31) then (if ceiling < 31 then ceiling else 31) else 1), .ref q7, .ref q15, .ref q22, .ref q29, .int 0, .long 0])), (q7, .inl (c7, 8, .inr (.inr (.inr (.inr (va_up (va_up (va_up (va_up (fun _ => none) 0 (some q86)) 1 (some q86_1)) 2 (some q86_2)) 3 (some q86_3))))))), (q15, .inl (c15, 4, .inl (fun _ => 0))), (q22, .inl (c22, 2, .inl (fun _ => 0))), (q29, .inl (c29, 2, .inr (.inr (.inr (.inr (fun _ => none)))))), (q86, .inr (1, [.int 0, .int 0, .int 1, .int 1, .int 0, .int 0, .int 0, .long 0, .int 0, .long 1000000000000, .int 0, .int 0, .int 0, .int 0])), (q86_1, .inr (1, [.int 1, .int 0, .int 1, .int 1, .int 0, .int 0, .int 0, .long 0, .int 0, .long 1000000000000, .int 0, .int 0, .int 0, .int 0])), (q86_2, .inr (1, [.int 2, .int 0, .int 1, .int 1, .int 0, .int 0, .int 0, .long 0, .int 0, .long 1000000000000, .int 0, .int 0, .int 0, .int 0])), (q86_3, .inr (1, [.int 3, .int 0, .int 1, .int 1, .int 0, .int 0, .int 0, .long 0, .int 0, .long 1000000000000, .int 0, .int 0, .int 0, .int 0])), (q86_4, .inr (1, [.int 4, .int 0, .int 1, .int 1, .int 0, .int 0, .int 0, .long 0, .int 0, .long 1000000000000, .int 0, .int 0, .int 0, .int 0]))] H := hP
  have hD : va_D A [(h0, .inr (2, [.int (if 1 < (if slice < 20 then slice else 20) then (if slice < 20 then slice else 20) else 1), .int (if 1 < (if ceiling < 31 then ceiling else 31) then (if ceiling < 31 then ceiling else 31) else 1), .ref q7, .ref q15, .ref q22, .ref q29, .int 0, .long 0])), (q7, .inl (c7, 8, .inr (.inr (.inr (.inr (va_up (va_up (va_up (va_up (fun _ => none) 0 (some q86)) 1 (some q86_1)) 2 (some q86_2)) 3 (some q86_3))))))), (q15, .inl (c15, 4, .inl (fun _ => 0))), (q22, .inl (c22, 2, .inl (fun _ => 0))), (q29, .inl (c29, 2, .inr (.inr (.inr (.inr (fun _ => none)))))), (q86, .inr (1, [.int 0, .int 0, .int 1, .int 1, .int 0, .int 0, .int 0, .long 0, .int 0, .long 1000000000000, .int 0, .int 0, .int 0, .int 0])), (q86_1, .inr (1, [.int 1, .int 0, .int 1, .int 1, .int 0, .int 0, .int 0, .long 0, .int 0, .long 1000000000000, .int 0, .int 0, .int 0, .int 0])), (q86_2, .inr (1, [.int 2, .int 0, .int 1, .int 1, .int 0, .int 0, .int 0, .long 0, .int 0, .long 1000000000000, .int 0, .int 0, .int 0, .int 0])), (q86_3, .inr (1, [.int 3, .int 0, .int 1, .int 1, .int 0, .int 0, .int 0, .long 0, .int 0, .long 1000000000000, .int 0, .int 0, .int 0, .int 0])), (q86_4, .inr (1, [.int 4, .int 0, .int 1, .int 1, .int 0, .int 0, .int 0, .long 0, .int 0, .long 1000000000000, .int 0, .int 0, .int 0, .int 0]))] := hD
  refine W.widen (k := 9) (n := 86) (by omega) (by omega) ?_
  refine va_astq hx hb hK hP hD hS 1 0 9 1 rfl rfl rfl rfl (kk_inl (by decide)) dX_init_94 (fun H locs hP hD hS => ?_)
  rw [kk_c4] at hP hD
  have hP : va_P (dC, dI) vwCl [(h0, .inr (2, [.int (if 1 < (if slice < 20 then slice else 20) then (if slice < 20 then slice else 20) else 1), .int (if 1 < (if ceiling < 31 then ceiling else 31) then (if ceiling < 31 then ceiling else 31) else 1), .ref q7, .ref q15, .ref q22, .ref q29, .int 0, .long 0])), (q7, .inl (c7, 8, .inr (.inr (.inr (.inr (va_up (va_up (va_up (va_up (va_up (fun _ => none) 0 (some q86)) 1 (some q86_1)) 2 (some q86_2)) 3 (some q86_3)) 4 (some q86_4))))))), (q15, .inl (c15, 4, .inl (fun _ => 0))), (q22, .inl (c22, 2, .inl (fun _ => 0))), (q29, .inl (c29, 2, .inr (.inr (.inr (.inr (fun _ => none)))))), (q86, .inr (1, [.int 0, .int 0, .int 1, .int 1, .int 0, .int 0, .int 0, .long 0, .int 0, .long 1000000000000, .int 0, .int 0, .int 0, .int 0])), (q86_1, .inr (1, [.int 1, .int 0, .int 1, .int 1, .int 0, .int 0, .int 0, .long 0, .int 0, .long 1000000000000, .int 0, .int 0, .int 0, .int 0])), (q86_2, .inr (1, [.int 2, .int 0, .int 1, .int 1, .int 0, .int 0, .int 0, .long 0, .int 0, .long 1000000000000, .int 0, .int 0, .int 0, .int 0])), (q86_3, .inr (1, [.int 3, .int 0, .int 1, .int 1, .int 0, .int 0, .int 0, .long 0, .int 0, .long 1000000000000, .int 0, .int 0, .int 0, .int 0])), (q86_4, .inr (1, [.int 4, .int 0, .int 1, .int 1, .int 0, .int 0, .int 0, .long 0, .int 0, .long 1000000000000, .int 0, .int 0, .int 0, .int 0]))] H := hP
  have hD : va_D A [(h0, .inr (2, [.int (if 1 < (if slice < 20 then slice else 20) then (if slice < 20 then slice else 20) else 1), .int (if 1 < (if ceiling < 31 then ceiling else 31) then (if ceiling < 31 then ceiling else 31) else 1), .ref q7, .ref q15, .ref q22, .ref q29, .int 0, .long 0])), (q7, .inl (c7, 8, .inr (.inr (.inr (.inr (va_up (va_up (va_up (va_up (va_up (fun _ => none) 0 (some q86)) 1 (some q86_1)) 2 (some q86_2)) 3 (some q86_3)) 4 (some q86_4))))))), (q15, .inl (c15, 4, .inl (fun _ => 0))), (q22, .inl (c22, 2, .inl (fun _ => 0))), (q29, .inl (c29, 2, .inr (.inr (.inr (.inr (fun _ => none)))))), (q86, .inr (1, [.int 0, .int 0, .int 1, .int 1, .int 0, .int 0, .int 0, .long 0, .int 0, .long 1000000000000, .int 0, .int 0, .int 0, .int 0])), (q86_1, .inr (1, [.int 1, .int 0, .int 1, .int 1, .int 0, .int 0, .int 0, .long 0, .int 0, .long 1000000000000, .int 0, .int 0, .int 0, .int 0])), (q86_2, .inr (1, [.int 2, .int 0, .int 1, .int 1, .int 0, .int 0, .int 0, .long 0, .int 0, .long 1000000000000, .int 0, .int 0, .int 0, .int 0])), (q86_3, .inr (1, [.int 3, .int 0, .int 1, .int 1, .int 0, .int 0, .int 0, .long 0, .int 0, .long 1000000000000, .int 0, .int 0, .int 0, .int 0])), (q86_4, .inr (1, [.int 4, .int 0, .int 1, .int 1, .int 0, .int 0, .int 0, .long 0, .int 0, .long 1000000000000, .int 0, .int 0, .int 0, .int 0]))] := hD
  refine lv_iinc (v := 5) (lv' := [(3, .int 5), (0, .ref h0), (1, .int slice), (2, .int ceiling)]) hx hb dX_init_95 hl (k := 0) rfl (by decide) (by decide) rfl (fun ls hl => ?_)
  refine lv_goto (tgt := 75) hx hb dX_init_98 (by decide) ?_
  refine lv_iload_n hx hb dX_init_75 rfl (lv_at hl 0 rfl) ?_
  refine lv_bipush (v := 8) hx hb dX_init_76 (by decide) ?_
  refine lv_icmp_ge (tgt := 101) hx hb dX_init_78 (by decide) (fun c9 => absurd c9 (by decide)) (fun _ => ?_)
  refine lv_aload_n hx hb dX_init_81 rfl (lv_at hl 1 rfl) ?_
  refine va_get (D := (dC, dI)) (ci := 2) (v := .ref q7) (C := R_X) (T := T_X) (N := 8) hx hb hts uw_X hown hK hP 0 rfl rfl 2 (by decide) (hts _ (List.mem_cons_of_mem _ wd_106)) (fun _ h9 => h9) rfl dX_init_82 ?_
  refine lv_iload_n hx hb dX_init_85 rfl (lv_at hl 0 rfl) ?_
  refine va_new (ci := 1) (fs := [.int 0, .int 0, .int 0, .int 0, .int 0, .int 0, .int 0, .long 0, .int 0, .long 0, .int 0, .int 0, .int 0, .int 0]) (C := R_T) (T := T_T) (N := 14) hx hb hts uw_T ty_T ty_T_ok hown (hts _ (List.mem_cons_of_mem _ wd_14)) (hts _ (List.mem_cons_of_mem _ wd_24)) (hts _ (List.mem_cons_of_mem _ wd_3)) hK hP hD hS hA rfl (fun j hj => by rcases (show j = 0 ∨ j = 1 ∨ j = 2 ∨ j = 3 ∨ j = 4 ∨ j = 5 ∨ j = 6 ∨ j = 7 ∨ j = 8 ∨ j = 9 ∨ j = 10 ∨ j = 11 ∨ j = 12 ∨ j = 13 by omega) with rfl | rfl | rfl | rfl | rfl | rfl | rfl | rfl | rfl | rfl | rfl | rfl | rfl | rfl <;> rfl) (Nat.le_of_ble_eq_true rfl) (Nat.le_of_ble_eq_true rfl) dX_init_86 (fun q86_5 H hP hD hS => ?_)
  have hP : va_P (dC, dI) vwCl [(h0, .inr (2, [.int (if 1 < (if slice < 20 then slice else 20) then (if slice < 20 then slice else 20) else 1), .int (if 1 < (if ceiling < 31 then ceiling else 31) then (if ceiling < 31 then ceiling else 31) else 1), .ref q7, .ref q15, .ref q22, .ref q29, .int 0, .long 0])), (q7, .inl (c7, 8, .inr (.inr (.inr (.inr (va_up (va_up (va_up (va_up (va_up (fun _ => none) 0 (some q86)) 1 (some q86_1)) 2 (some q86_2)) 3 (some q86_3)) 4 (some q86_4))))))), (q15, .inl (c15, 4, .inl (fun _ => 0))), (q22, .inl (c22, 2, .inl (fun _ => 0))), (q29, .inl (c29, 2, .inr (.inr (.inr (.inr (fun _ => none)))))), (q86, .inr (1, [.int 0, .int 0, .int 1, .int 1, .int 0, .int 0, .int 0, .long 0, .int 0, .long 1000000000000, .int 0, .int 0, .int 0, .int 0])), (q86_1, .inr (1, [.int 1, .int 0, .int 1, .int 1, .int 0, .int 0, .int 0, .long 0, .int 0, .long 1000000000000, .int 0, .int 0, .int 0, .int 0])), (q86_2, .inr (1, [.int 2, .int 0, .int 1, .int 1, .int 0, .int 0, .int 0, .long 0, .int 0, .long 1000000000000, .int 0, .int 0, .int 0, .int 0])), (q86_3, .inr (1, [.int 3, .int 0, .int 1, .int 1, .int 0, .int 0, .int 0, .long 0, .int 0, .long 1000000000000, .int 0, .int 0, .int 0, .int 0])), (q86_4, .inr (1, [.int 4, .int 0, .int 1, .int 1, .int 0, .int 0, .int 0, .long 0, .int 0, .long 1000000000000, .int 0, .int 0, .int 0, .int 0])), (q86_5, .inr (1, [.int 0, .int 0, .int 0, .int 0, .int 0, .int 0, .int 0, .long 0, .int 0, .long 0, .int 0, .int 0, .int 0, .int 0]))] H := hP
  have hD : va_D A [(h0, .inr (2, [.int (if 1 < (if slice < 20 then slice else 20) then (if slice < 20 then slice else 20) else 1), .int (if 1 < (if ceiling < 31 then ceiling else 31) then (if ceiling < 31 then ceiling else 31) else 1), .ref q7, .ref q15, .ref q22, .ref q29, .int 0, .long 0])), (q7, .inl (c7, 8, .inr (.inr (.inr (.inr (va_up (va_up (va_up (va_up (va_up (fun _ => none) 0 (some q86)) 1 (some q86_1)) 2 (some q86_2)) 3 (some q86_3)) 4 (some q86_4))))))), (q15, .inl (c15, 4, .inl (fun _ => 0))), (q22, .inl (c22, 2, .inl (fun _ => 0))), (q29, .inl (c29, 2, .inr (.inr (.inr (.inr (fun _ => none)))))), (q86, .inr (1, [.int 0, .int 0, .int 1, .int 1, .int 0, .int 0, .int 0, .long 0, .int 0, .long 1000000000000, .int 0, .int 0, .int 0, .int 0])), (q86_1, .inr (1, [.int 1, .int 0, .int 1, .int 1, .int 0, .int 0, .int 0, .long 0, .int 0, .long 1000000000000, .int 0, .int 0, .int 0, .int 0])), (q86_2, .inr (1, [.int 2, .int 0, .int 1, .int 1, .int 0, .int 0, .int 0, .long 0, .int 0, .long 1000000000000, .int 0, .int 0, .int 0, .int 0])), (q86_3, .inr (1, [.int 3, .int 0, .int 1, .int 1, .int 0, .int 0, .int 0, .long 0, .int 0, .long 1000000000000, .int 0, .int 0, .int 0, .int 0])), (q86_4, .inr (1, [.int 4, .int 0, .int 1, .int 1, .int 0, .int 0, .int 0, .long 0, .int 0, .long 1000000000000, .int 0, .int 0, .int 0, .int 0])), (q86_5, .inr (1, [.int 0, .int 0, .int 0, .int 0, .int 0, .int 0, .int 0, .long 0, .int 0, .long 0, .int 0, .int 0, .int 0, .int 0]))] := hD
  refine W.widen (k := 10) (n := 100) (by omega) (by omega) ?_
  refine lv_dup hx hb dX_init_89 rfl ?_
  refine lv_iload_n hx hb dX_init_90 rfl (lv_at hl 0 rfl) ?_
  have hPc := hP.sub (ws' := [(q86_5, .inr (1, [.int 0, .int 0, .int 0, .int 0, .int 0, .int 0, .int 0, .long 0, .int 0, .long 0, .int 0, .int 0, .int 0, .int 0]))]) [10] rfl
  have hKc := hK.sub (tys' := []) [] rfl
  have hFc : ∀ q, q = q86_5 → A q := fun q h9 => by rw [h9]; exact hD.2 10 _ rfl
  refine va_callv (va_runI (As := [.int 5]) (rest := [.ref q86_5, .int 5, .ref q7]) ⟨hx, hb, hml, hown, hts⟩ (xc_T_init l dC dI q86_5 5) (cwI 1 hts (kn_I wd_27) rfl rfl rfl (hts _ (List.mem_cons_of_mem _ wd_3)) (hts _ (List.mem_cons_of_mem _ wd_25)) (hts _ (List.mem_cons_of_mem _ wd_26)) rfl (by decide +kernel) ⟨Nat.le_of_ble_eq_true rfl, Nat.le_of_ble_eq_true rfl⟩) ⟨kk_blind, kk_pre hPc hKc⟩ rfl rfl hl.1 rfl (lv_room (Nat.le_of_ble_eq_true rfl)) dX_init_91 ⟨Nat.le_of_ble_eq_true rfl, Nat.le_of_ble_eq_true rfl⟩) hS (fun q _ h => hFc q h) hFc (fun u t H1 locs ht hvm hw hB hz1 hk1 hS => ?_)
  have hP1 := hB.1
  rw [ht] at hP1
  have hP := kk_last (ws := [(h0, .inr (2, [.int (if 1 < (if slice < 20 then slice else 20) then (if slice < 20 then slice else 20) else 1), .int (if 1 < (if ceiling < 31 then ceiling else 31) then (if ceiling < 31 then ceiling else 31) else 1), .ref q7, .ref q15, .ref q22, .ref q29, .int 0, .long 0])), (q7, .inl (c7, 8, .inr (.inr (.inr (.inr (va_up (va_up (va_up (va_up (va_up (fun _ => none) 0 (some q86)) 1 (some q86_1)) 2 (some q86_2)) 3 (some q86_3)) 4 (some q86_4))))))), (q15, .inl (c15, 4, .inl (fun _ => 0))), (q22, .inl (c22, 2, .inl (fun _ => 0))), (q29, .inl (c29, 2, .inr (.inr (.inr (.inr (fun _ => none)))))), (q86, .inr (1, [.int 0, .int 0, .int 1, .int 1, .int 0, .int 0, .int 0, .long 0, .int 0, .long 1000000000000, .int 0, .int 0, .int 0, .int 0])), (q86_1, .inr (1, [.int 1, .int 0, .int 1, .int 1, .int 0, .int 0, .int 0, .long 0, .int 0, .long 1000000000000, .int 0, .int 0, .int 0, .int 0])), (q86_2, .inr (1, [.int 2, .int 0, .int 1, .int 1, .int 0, .int 0, .int 0, .long 0, .int 0, .long 1000000000000, .int 0, .int 0, .int 0, .int 0])), (q86_3, .inr (1, [.int 3, .int 0, .int 1, .int 1, .int 0, .int 0, .int 0, .long 0, .int 0, .long 1000000000000, .int 0, .int 0, .int 0, .int 0])), (q86_4, .inr (1, [.int 4, .int 0, .int 1, .int 1, .int 0, .int 0, .int 0, .long 0, .int 0, .long 1000000000000, .int 0, .int 0, .int 0, .int 0]))]) hP hD hk1 hP1
  have hD := kk_lastD (ws := [(h0, .inr (2, [.int (if 1 < (if slice < 20 then slice else 20) then (if slice < 20 then slice else 20) else 1), .int (if 1 < (if ceiling < 31 then ceiling else 31) then (if ceiling < 31 then ceiling else 31) else 1), .ref q7, .ref q15, .ref q22, .ref q29, .int 0, .long 0])), (q7, .inl (c7, 8, .inr (.inr (.inr (.inr (va_up (va_up (va_up (va_up (va_up (fun _ => none) 0 (some q86)) 1 (some q86_1)) 2 (some q86_2)) 3 (some q86_3)) 4 (some q86_4))))))), (q15, .inl (c15, 4, .inl (fun _ => 0))), (q22, .inl (c22, 2, .inl (fun _ => 0))), (q29, .inl (c29, 2, .inr (.inr (.inr (.inr (fun _ => none)))))), (q86, .inr (1, [.int 0, .int 0, .int 1, .int 1, .int 0, .int 0, .int 0, .long 0, .int 0, .long 1000000000000, .int 0, .int 0, .int 0, .int 0])), (q86_1, .inr (1, [.int 1, .int 0, .int 1, .int 1, .int 0, .int 0, .int 0, .long 0, .int 0, .long 1000000000000, .int 0, .int 0, .int 0, .int 0])), (q86_2, .inr (1, [.int 2, .int 0, .int 1, .int 1, .int 0, .int 0, .int 0, .long 0, .int 0, .long 1000000000000, .int 0, .int 0, .int 0, .int 0])), (q86_3, .inr (1, [.int 3, .int 0, .int 1, .int 1, .int 0, .int 0, .int 0, .long 0, .int 0, .long 1000000000000, .int 0, .int 0, .int 0, .int 0])), (q86_4, .inr (1, [.int 4, .int 0, .int 1, .int 1, .int 0, .int 0, .int 0, .long 0, .int 0, .long 1000000000000, .int 0, .int 0, .int 0, .int 0]))]) (e2 := .inr (1, [.int 5, .int 0, .int 1, .int 1, .int 0, .int 0, .int 0, .long 0, .int 0, .long 1000000000000, .int 0, .int 0, .int 0, .int 0])) hD
  generalize H1 = H at hP hS ⊢
  have hP : va_P (dC, dI) vwCl [(h0, .inr (2, [.int (if 1 < (if slice < 20 then slice else 20) then (if slice < 20 then slice else 20) else 1), .int (if 1 < (if ceiling < 31 then ceiling else 31) then (if ceiling < 31 then ceiling else 31) else 1), .ref q7, .ref q15, .ref q22, .ref q29, .int 0, .long 0])), (q7, .inl (c7, 8, .inr (.inr (.inr (.inr (va_up (va_up (va_up (va_up (va_up (fun _ => none) 0 (some q86)) 1 (some q86_1)) 2 (some q86_2)) 3 (some q86_3)) 4 (some q86_4))))))), (q15, .inl (c15, 4, .inl (fun _ => 0))), (q22, .inl (c22, 2, .inl (fun _ => 0))), (q29, .inl (c29, 2, .inr (.inr (.inr (.inr (fun _ => none)))))), (q86, .inr (1, [.int 0, .int 0, .int 1, .int 1, .int 0, .int 0, .int 0, .long 0, .int 0, .long 1000000000000, .int 0, .int 0, .int 0, .int 0])), (q86_1, .inr (1, [.int 1, .int 0, .int 1, .int 1, .int 0, .int 0, .int 0, .long 0, .int 0, .long 1000000000000, .int 0, .int 0, .int 0, .int 0])), (q86_2, .inr (1, [.int 2, .int 0, .int 1, .int 1, .int 0, .int 0, .int 0, .long 0, .int 0, .long 1000000000000, .int 0, .int 0, .int 0, .int 0])), (q86_3, .inr (1, [.int 3, .int 0, .int 1, .int 1, .int 0, .int 0, .int 0, .long 0, .int 0, .long 1000000000000, .int 0, .int 0, .int 0, .int 0])), (q86_4, .inr (1, [.int 4, .int 0, .int 1, .int 1, .int 0, .int 0, .int 0, .long 0, .int 0, .long 1000000000000, .int 0, .int 0, .int 0, .int 0])), (q86_5, .inr (1, [.int 5, .int 0, .int 1, .int 1, .int 0, .int 0, .int 0, .long 0, .int 0, .long 1000000000000, .int 0, .int 0, .int 0, .int 0]))] H := hP
  have hD : va_D A [(h0, .inr (2, [.int (if 1 < (if slice < 20 then slice else 20) then (if slice < 20 then slice else 20) else 1), .int (if 1 < (if ceiling < 31 then ceiling else 31) then (if ceiling < 31 then ceiling else 31) else 1), .ref q7, .ref q15, .ref q22, .ref q29, .int 0, .long 0])), (q7, .inl (c7, 8, .inr (.inr (.inr (.inr (va_up (va_up (va_up (va_up (va_up (fun _ => none) 0 (some q86)) 1 (some q86_1)) 2 (some q86_2)) 3 (some q86_3)) 4 (some q86_4))))))), (q15, .inl (c15, 4, .inl (fun _ => 0))), (q22, .inl (c22, 2, .inl (fun _ => 0))), (q29, .inl (c29, 2, .inr (.inr (.inr (.inr (fun _ => none)))))), (q86, .inr (1, [.int 0, .int 0, .int 1, .int 1, .int 0, .int 0, .int 0, .long 0, .int 0, .long 1000000000000, .int 0, .int 0, .int 0, .int 0])), (q86_1, .inr (1, [.int 1, .int 0, .int 1, .int 1, .int 0, .int 0, .int 0, .long 0, .int 0, .long 1000000000000, .int 0, .int 0, .int 0, .int 0])), (q86_2, .inr (1, [.int 2, .int 0, .int 1, .int 1, .int 0, .int 0, .int 0, .long 0, .int 0, .long 1000000000000, .int 0, .int 0, .int 0, .int 0])), (q86_3, .inr (1, [.int 3, .int 0, .int 1, .int 1, .int 0, .int 0, .int 0, .long 0, .int 0, .long 1000000000000, .int 0, .int 0, .int 0, .int 0])), (q86_4, .inr (1, [.int 4, .int 0, .int 1, .int 1, .int 0, .int 0, .int 0, .long 0, .int 0, .long 1000000000000, .int 0, .int 0, .int 0, .int 0])), (q86_5, .inr (1, [.int 5, .int 0, .int 1, .int 1, .int 0, .int 0, .int 0, .long 0, .int 0, .long 1000000000000, .int 0, .int 0, .int 0, .int 0]))] := hD
  refine W.widen (k := 10) (n := 100) (by omega) (by omega) ?_
  refine va_astq hx hb hK hP hD hS 1 0 10 1 rfl rfl rfl rfl (kk_inl (by decide)) dX_init_94 (fun H locs hP hD hS => ?_)
  rw [kk_c5] at hP hD
  have hP : va_P (dC, dI) vwCl [(h0, .inr (2, [.int (if 1 < (if slice < 20 then slice else 20) then (if slice < 20 then slice else 20) else 1), .int (if 1 < (if ceiling < 31 then ceiling else 31) then (if ceiling < 31 then ceiling else 31) else 1), .ref q7, .ref q15, .ref q22, .ref q29, .int 0, .long 0])), (q7, .inl (c7, 8, .inr (.inr (.inr (.inr (va_up (va_up (va_up (va_up (va_up (va_up (fun _ => none) 0 (some q86)) 1 (some q86_1)) 2 (some q86_2)) 3 (some q86_3)) 4 (some q86_4)) 5 (some q86_5))))))), (q15, .inl (c15, 4, .inl (fun _ => 0))), (q22, .inl (c22, 2, .inl (fun _ => 0))), (q29, .inl (c29, 2, .inr (.inr (.inr (.inr (fun _ => none)))))), (q86, .inr (1, [.int 0, .int 0, .int 1, .int 1, .int 0, .int 0, .int 0, .long 0, .int 0, .long 1000000000000, .int 0, .int 0, .int 0, .int 0])), (q86_1, .inr (1, [.int 1, .int 0, .int 1, .int 1, .int 0, .int 0, .int 0, .long 0, .int 0, .long 1000000000000, .int 0, .int 0, .int 0, .int 0])), (q86_2, .inr (1, [.int 2, .int 0, .int 1, .int 1, .int 0, .int 0, .int 0, .long 0, .int 0, .long 1000000000000, .int 0, .int 0, .int 0, .int 0])), (q86_3, .inr (1, [.int 3, .int 0, .int 1, .int 1, .int 0, .int 0, .int 0, .long 0, .int 0, .long 1000000000000, .int 0, .int 0, .int 0, .int 0])), (q86_4, .inr (1, [.int 4, .int 0, .int 1, .int 1, .int 0, .int 0, .int 0, .long 0, .int 0, .long 1000000000000, .int 0, .int 0, .int 0, .int 0])), (q86_5, .inr (1, [.int 5, .int 0, .int 1, .int 1, .int 0, .int 0, .int 0, .long 0, .int 0, .long 1000000000000, .int 0, .int 0, .int 0, .int 0]))] H := hP
  have hD : va_D A [(h0, .inr (2, [.int (if 1 < (if slice < 20 then slice else 20) then (if slice < 20 then slice else 20) else 1), .int (if 1 < (if ceiling < 31 then ceiling else 31) then (if ceiling < 31 then ceiling else 31) else 1), .ref q7, .ref q15, .ref q22, .ref q29, .int 0, .long 0])), (q7, .inl (c7, 8, .inr (.inr (.inr (.inr (va_up (va_up (va_up (va_up (va_up (va_up (fun _ => none) 0 (some q86)) 1 (some q86_1)) 2 (some q86_2)) 3 (some q86_3)) 4 (some q86_4)) 5 (some q86_5))))))), (q15, .inl (c15, 4, .inl (fun _ => 0))), (q22, .inl (c22, 2, .inl (fun _ => 0))), (q29, .inl (c29, 2, .inr (.inr (.inr (.inr (fun _ => none)))))), (q86, .inr (1, [.int 0, .int 0, .int 1, .int 1, .int 0, .int 0, .int 0, .long 0, .int 0, .long 1000000000000, .int 0, .int 0, .int 0, .int 0])), (q86_1, .inr (1, [.int 1, .int 0, .int 1, .int 1, .int 0, .int 0, .int 0, .long 0, .int 0, .long 1000000000000, .int 0, .int 0, .int 0, .int 0])), (q86_2, .inr (1, [.int 2, .int 0, .int 1, .int 1, .int 0, .int 0, .int 0, .long 0, .int 0, .long 1000000000000, .int 0, .int 0, .int 0, .int 0])), (q86_3, .inr (1, [.int 3, .int 0, .int 1, .int 1, .int 0, .int 0, .int 0, .long 0, .int 0, .long 1000000000000, .int 0, .int 0, .int 0, .int 0])), (q86_4, .inr (1, [.int 4, .int 0, .int 1, .int 1, .int 0, .int 0, .int 0, .long 0, .int 0, .long 1000000000000, .int 0, .int 0, .int 0, .int 0])), (q86_5, .inr (1, [.int 5, .int 0, .int 1, .int 1, .int 0, .int 0, .int 0, .long 0, .int 0, .long 1000000000000, .int 0, .int 0, .int 0, .int 0]))] := hD
  refine lv_iinc (v := 6) (lv' := [(3, .int 6), (0, .ref h0), (1, .int slice), (2, .int ceiling)]) hx hb dX_init_95 hl (k := 0) rfl (by decide) (by decide) rfl (fun ls hl => ?_)
  refine lv_goto (tgt := 75) hx hb dX_init_98 (by decide) ?_
  refine lv_iload_n hx hb dX_init_75 rfl (lv_at hl 0 rfl) ?_
  refine lv_bipush (v := 8) hx hb dX_init_76 (by decide) ?_
  refine lv_icmp_ge (tgt := 101) hx hb dX_init_78 (by decide) (fun c9 => absurd c9 (by decide)) (fun _ => ?_)
  refine lv_aload_n hx hb dX_init_81 rfl (lv_at hl 1 rfl) ?_
  refine va_get (D := (dC, dI)) (ci := 2) (v := .ref q7) (C := R_X) (T := T_X) (N := 8) hx hb hts uw_X hown hK hP 0 rfl rfl 2 (by decide) (hts _ (List.mem_cons_of_mem _ wd_106)) (fun _ h9 => h9) rfl dX_init_82 ?_
  refine lv_iload_n hx hb dX_init_85 rfl (lv_at hl 0 rfl) ?_
  refine va_new (ci := 1) (fs := [.int 0, .int 0, .int 0, .int 0, .int 0, .int 0, .int 0, .long 0, .int 0, .long 0, .int 0, .int 0, .int 0, .int 0]) (C := R_T) (T := T_T) (N := 14) hx hb hts uw_T ty_T ty_T_ok hown (hts _ (List.mem_cons_of_mem _ wd_14)) (hts _ (List.mem_cons_of_mem _ wd_24)) (hts _ (List.mem_cons_of_mem _ wd_3)) hK hP hD hS hA rfl (fun j hj => by rcases (show j = 0 ∨ j = 1 ∨ j = 2 ∨ j = 3 ∨ j = 4 ∨ j = 5 ∨ j = 6 ∨ j = 7 ∨ j = 8 ∨ j = 9 ∨ j = 10 ∨ j = 11 ∨ j = 12 ∨ j = 13 by omega) with rfl | rfl | rfl | rfl | rfl | rfl | rfl | rfl | rfl | rfl | rfl | rfl | rfl | rfl <;> rfl) (Nat.le_of_ble_eq_true rfl) (Nat.le_of_ble_eq_true rfl) dX_init_86 (fun q86_6 H hP hD hS => ?_)
  have hP : va_P (dC, dI) vwCl [(h0, .inr (2, [.int (if 1 < (if slice < 20 then slice else 20) then (if slice < 20 then slice else 20) else 1), .int (if 1 < (if ceiling < 31 then ceiling else 31) then (if ceiling < 31 then ceiling else 31) else 1), .ref q7, .ref q15, .ref q22, .ref q29, .int 0, .long 0])), (q7, .inl (c7, 8, .inr (.inr (.inr (.inr (va_up (va_up (va_up (va_up (va_up (va_up (fun _ => none) 0 (some q86)) 1 (some q86_1)) 2 (some q86_2)) 3 (some q86_3)) 4 (some q86_4)) 5 (some q86_5))))))), (q15, .inl (c15, 4, .inl (fun _ => 0))), (q22, .inl (c22, 2, .inl (fun _ => 0))), (q29, .inl (c29, 2, .inr (.inr (.inr (.inr (fun _ => none)))))), (q86, .inr (1, [.int 0, .int 0, .int 1, .int 1, .int 0, .int 0, .int 0, .long 0, .int 0, .long 1000000000000, .int 0, .int 0, .int 0, .int 0])), (q86_1, .inr (1, [.int 1, .int 0, .int 1, .int 1, .int 0, .int 0, .int 0, .long 0, .int 0, .long 1000000000000, .int 0, .int 0, .int 0, .int 0])), (q86_2, .inr (1, [.int 2, .int 0, .int 1, .int 1, .int 0, .int 0, .int 0, .long 0, .int 0, .long 1000000000000, .int 0, .int 0, .int 0, .int 0])), (q86_3, .inr (1, [.int 3, .int 0, .int 1, .int 1, .int 0, .int 0, .int 0, .long 0, .int 0, .long 1000000000000, .int 0, .int 0, .int 0, .int 0])), (q86_4, .inr (1, [.int 4, .int 0, .int 1, .int 1, .int 0, .int 0, .int 0, .long 0, .int 0, .long 1000000000000, .int 0, .int 0, .int 0, .int 0])), (q86_5, .inr (1, [.int 5, .int 0, .int 1, .int 1, .int 0, .int 0, .int 0, .long 0, .int 0, .long 1000000000000, .int 0, .int 0, .int 0, .int 0])), (q86_6, .inr (1, [.int 0, .int 0, .int 0, .int 0, .int 0, .int 0, .int 0, .long 0, .int 0, .long 0, .int 0, .int 0, .int 0, .int 0]))] H := hP
  have hD : va_D A [(h0, .inr (2, [.int (if 1 < (if slice < 20 then slice else 20) then (if slice < 20 then slice else 20) else 1), .int (if 1 < (if ceiling < 31 then ceiling else 31) then (if ceiling < 31 then ceiling else 31) else 1), .ref q7, .ref q15, .ref q22, .ref q29, .int 0, .long 0])), (q7, .inl (c7, 8, .inr (.inr (.inr (.inr (va_up (va_up (va_up (va_up (va_up (va_up (fun _ => none) 0 (some q86)) 1 (some q86_1)) 2 (some q86_2)) 3 (some q86_3)) 4 (some q86_4)) 5 (some q86_5))))))), (q15, .inl (c15, 4, .inl (fun _ => 0))), (q22, .inl (c22, 2, .inl (fun _ => 0))), (q29, .inl (c29, 2, .inr (.inr (.inr (.inr (fun _ => none)))))), (q86, .inr (1, [.int 0, .int 0, .int 1, .int 1, .int 0, .int 0, .int 0, .long 0, .int 0, .long 1000000000000, .int 0, .int 0, .int 0, .int 0])), (q86_1, .inr (1, [.int 1, .int 0, .int 1, .int 1, .int 0, .int 0, .int 0, .long 0, .int 0, .long 1000000000000, .int 0, .int 0, .int 0, .int 0])), (q86_2, .inr (1, [.int 2, .int 0, .int 1, .int 1, .int 0, .int 0, .int 0, .long 0, .int 0, .long 1000000000000, .int 0, .int 0, .int 0, .int 0])), (q86_3, .inr (1, [.int 3, .int 0, .int 1, .int 1, .int 0, .int 0, .int 0, .long 0, .int 0, .long 1000000000000, .int 0, .int 0, .int 0, .int 0])), (q86_4, .inr (1, [.int 4, .int 0, .int 1, .int 1, .int 0, .int 0, .int 0, .long 0, .int 0, .long 1000000000000, .int 0, .int 0, .int 0, .int 0])), (q86_5, .inr (1, [.int 5, .int 0, .int 1, .int 1, .int 0, .int 0, .int 0, .long 0, .int 0, .long 1000000000000, .int 0, .int 0, .int 0, .int 0])), (q86_6, .inr (1, [.int 0, .int 0, .int 0, .int 0, .int 0, .int 0, .int 0, .long 0, .int 0, .long 0, .int 0, .int 0, .int 0, .int 0]))] := hD
  refine W.widen (k := 11) (n := 114) (by omega) (by omega) ?_
  refine lv_dup hx hb dX_init_89 rfl ?_
  refine lv_iload_n hx hb dX_init_90 rfl (lv_at hl 0 rfl) ?_
  have hPc := hP.sub (ws' := [(q86_6, .inr (1, [.int 0, .int 0, .int 0, .int 0, .int 0, .int 0, .int 0, .long 0, .int 0, .long 0, .int 0, .int 0, .int 0, .int 0]))]) [11] rfl
  have hKc := hK.sub (tys' := []) [] rfl
  have hFc : ∀ q, q = q86_6 → A q := fun q h9 => by rw [h9]; exact hD.2 11 _ rfl
  refine va_callv (va_runI (As := [.int 6]) (rest := [.ref q86_6, .int 6, .ref q7]) ⟨hx, hb, hml, hown, hts⟩ (xc_T_init l dC dI q86_6 6) (cwI 1 hts (kn_I wd_27) rfl rfl rfl (hts _ (List.mem_cons_of_mem _ wd_3)) (hts _ (List.mem_cons_of_mem _ wd_25)) (hts _ (List.mem_cons_of_mem _ wd_26)) rfl (by decide +kernel) ⟨Nat.le_of_ble_eq_true rfl, Nat.le_of_ble_eq_true rfl⟩) ⟨kk_blind, kk_pre hPc hKc⟩ rfl rfl hl.1 rfl (lv_room (Nat.le_of_ble_eq_true rfl)) dX_init_91 ⟨Nat.le_of_ble_eq_true rfl, Nat.le_of_ble_eq_true rfl⟩) hS (fun q _ h => hFc q h) hFc (fun u t H1 locs ht hvm hw hB hz1 hk1 hS => ?_)
  have hP1 := hB.1
  rw [ht] at hP1
  have hP := kk_last (ws := [(h0, .inr (2, [.int (if 1 < (if slice < 20 then slice else 20) then (if slice < 20 then slice else 20) else 1), .int (if 1 < (if ceiling < 31 then ceiling else 31) then (if ceiling < 31 then ceiling else 31) else 1), .ref q7, .ref q15, .ref q22, .ref q29, .int 0, .long 0])), (q7, .inl (c7, 8, .inr (.inr (.inr (.inr (va_up (va_up (va_up (va_up (va_up (va_up (fun _ => none) 0 (some q86)) 1 (some q86_1)) 2 (some q86_2)) 3 (some q86_3)) 4 (some q86_4)) 5 (some q86_5))))))), (q15, .inl (c15, 4, .inl (fun _ => 0))), (q22, .inl (c22, 2, .inl (fun _ => 0))), (q29, .inl (c29, 2, .inr (.inr (.inr (.inr (fun _ => none)))))), (q86, .inr (1, [.int 0, .int 0, .int 1, .int 1, .int 0, .int 0, .int 0, .long 0, .int 0, .long 1000000000000, .int 0, .int 0, .int 0, .int 0])), (q86_1, .inr (1, [.int 1, .int 0, .int 1, .int 1, .int 0, .int 0, .int 0, .long 0, .int 0, .long 1000000000000, .int 0, .int 0, .int 0, .int 0])), (q86_2, .inr (1, [.int 2, .int 0, .int 1, .int 1, .int 0, .int 0, .int 0, .long 0, .int 0, .long 1000000000000, .int 0, .int 0, .int 0, .int 0])), (q86_3, .inr (1, [.int 3, .int 0, .int 1, .int 1, .int 0, .int 0, .int 0, .long 0, .int 0, .long 1000000000000, .int 0, .int 0, .int 0, .int 0])), (q86_4, .inr (1, [.int 4, .int 0, .int 1, .int 1, .int 0, .int 0, .int 0, .long 0, .int 0, .long 1000000000000, .int 0, .int 0, .int 0, .int 0])), (q86_5, .inr (1, [.int 5, .int 0, .int 1, .int 1, .int 0, .int 0, .int 0, .long 0, .int 0, .long 1000000000000, .int 0, .int 0, .int 0, .int 0]))]) hP hD hk1 hP1
  have hD := kk_lastD (ws := [(h0, .inr (2, [.int (if 1 < (if slice < 20 then slice else 20) then (if slice < 20 then slice else 20) else 1), .int (if 1 < (if ceiling < 31 then ceiling else 31) then (if ceiling < 31 then ceiling else 31) else 1), .ref q7, .ref q15, .ref q22, .ref q29, .int 0, .long 0])), (q7, .inl (c7, 8, .inr (.inr (.inr (.inr (va_up (va_up (va_up (va_up (va_up (va_up (fun _ => none) 0 (some q86)) 1 (some q86_1)) 2 (some q86_2)) 3 (some q86_3)) 4 (some q86_4)) 5 (some q86_5))))))), (q15, .inl (c15, 4, .inl (fun _ => 0))), (q22, .inl (c22, 2, .inl (fun _ => 0))), (q29, .inl (c29, 2, .inr (.inr (.inr (.inr (fun _ => none)))))), (q86, .inr (1, [.int 0, .int 0, .int 1, .int 1, .int 0, .int 0, .int 0, .long 0, .int 0, .long 1000000000000, .int 0, .int 0, .int 0, .int 0])), (q86_1, .inr (1, [.int 1, .int 0, .int 1, .int 1, .int 0, .int 0, .int 0, .long 0, .int 0, .long 1000000000000, .int 0, .int 0, .int 0, .int 0])), (q86_2, .inr (1, [.int 2, .int 0, .int 1, .int 1, .int 0, .int 0, .int 0, .long 0, .int 0, .long 1000000000000, .int 0, .int 0, .int 0, .int 0])), (q86_3, .inr (1, [.int 3, .int 0, .int 1, .int 1, .int 0, .int 0, .int 0, .long 0, .int 0, .long 1000000000000, .int 0, .int 0, .int 0, .int 0])), (q86_4, .inr (1, [.int 4, .int 0, .int 1, .int 1, .int 0, .int 0, .int 0, .long 0, .int 0, .long 1000000000000, .int 0, .int 0, .int 0, .int 0])), (q86_5, .inr (1, [.int 5, .int 0, .int 1, .int 1, .int 0, .int 0, .int 0, .long 0, .int 0, .long 1000000000000, .int 0, .int 0, .int 0, .int 0]))]) (e2 := .inr (1, [.int 6, .int 0, .int 1, .int 1, .int 0, .int 0, .int 0, .long 0, .int 0, .long 1000000000000, .int 0, .int 0, .int 0, .int 0])) hD
  generalize H1 = H at hP hS ⊢
  have hP : va_P (dC, dI) vwCl [(h0, .inr (2, [.int (if 1 < (if slice < 20 then slice else 20) then (if slice < 20 then slice else 20) else 1), .int (if 1 < (if ceiling < 31 then ceiling else 31) then (if ceiling < 31 then ceiling else 31) else 1), .ref q7, .ref q15, .ref q22, .ref q29, .int 0, .long 0])), (q7, .inl (c7, 8, .inr (.inr (.inr (.inr (va_up (va_up (va_up (va_up (va_up (va_up (fun _ => none) 0 (some q86)) 1 (some q86_1)) 2 (some q86_2)) 3 (some q86_3)) 4 (some q86_4)) 5 (some q86_5))))))), (q15, .inl (c15, 4, .inl (fun _ => 0))), (q22, .inl (c22, 2, .inl (fun _ => 0))), (q29, .inl (c29, 2, .inr (.inr (.inr (.inr (fun _ => none)))))), (q86, .inr (1, [.int 0, .int 0, .int 1, .int 1, .int 0, .int 0, .int 0, .long 0, .int 0, .long 1000000000000, .int 0, .int 0, .int 0, .int 0])), (q86_1, .inr (1, [.int 1, .int 0, .int 1, .int 1, .int 0, .int 0, .int 0, .long 0, .int 0, .long 1000000000000, .int 0, .int 0, .int 0, .int 0])), (q86_2, .inr (1, [.int 2, .int 0, .int 1, .int 1, .int 0, .int 0, .int 0, .long 0, .int 0, .long 1000000000000, .int 0, .int 0, .int 0, .int 0])), (q86_3, .inr (1, [.int 3, .int 0, .int 1, .int 1, .int 0, .int 0, .int 0, .long 0, .int 0, .long 1000000000000, .int 0, .int 0, .int 0, .int 0])), (q86_4, .inr (1, [.int 4, .int 0, .int 1, .int 1, .int 0, .int 0, .int 0, .long 0, .int 0, .long 1000000000000, .int 0, .int 0, .int 0, .int 0])), (q86_5, .inr (1, [.int 5, .int 0, .int 1, .int 1, .int 0, .int 0, .int 0, .long 0, .int 0, .long 1000000000000, .int 0, .int 0, .int 0, .int 0])), (q86_6, .inr (1, [.int 6, .int 0, .int 1, .int 1, .int 0, .int 0, .int 0, .long 0, .int 0, .long 1000000000000, .int 0, .int 0, .int 0, .int 0]))] H := hP
  have hD : va_D A [(h0, .inr (2, [.int (if 1 < (if slice < 20 then slice else 20) then (if slice < 20 then slice else 20) else 1), .int (if 1 < (if ceiling < 31 then ceiling else 31) then (if ceiling < 31 then ceiling else 31) else 1), .ref q7, .ref q15, .ref q22, .ref q29, .int 0, .long 0])), (q7, .inl (c7, 8, .inr (.inr (.inr (.inr (va_up (va_up (va_up (va_up (va_up (va_up (fun _ => none) 0 (some q86)) 1 (some q86_1)) 2 (some q86_2)) 3 (some q86_3)) 4 (some q86_4)) 5 (some q86_5))))))), (q15, .inl (c15, 4, .inl (fun _ => 0))), (q22, .inl (c22, 2, .inl (fun _ => 0))), (q29, .inl (c29, 2, .inr (.inr (.inr (.inr (fun _ => none)))))), (q86, .inr (1, [.int 0, .int 0, .int 1, .int 1, .int 0, .int 0, .int 0, .long 0, .int 0, .long 1000000000000, .int 0, .int 0, .int 0, .int 0])), (q86_1, .inr (1, [.int 1, .int 0, .int 1, .int 1, .int 0, .int 0, .int 0, .long 0, .int 0, .long 1000000000000, .int 0, .int 0, .int 0, .int 0])), (q86_2, .inr (1, [.int 2, .int 0, .int 1, .int 1, .int 0, .int 0, .int 0, .long 0, .int 0, .long 1000000000000, .int 0, .int 0, .int 0, .int 0])), (q86_3, .inr (1, [.int 3, .int 0, .int 1, .int 1, .int 0, .int 0, .int 0, .long 0, .int 0, .long 1000000000000, .int 0, .int 0, .int 0, .int 0])), (q86_4, .inr (1, [.int 4, .int 0, .int 1, .int 1, .int 0, .int 0, .int 0, .long 0, .int 0, .long 1000000000000, .int 0, .int 0, .int 0, .int 0])), (q86_5, .inr (1, [.int 5, .int 0, .int 1, .int 1, .int 0, .int 0, .int 0, .long 0, .int 0, .long 1000000000000, .int 0, .int 0, .int 0, .int 0])), (q86_6, .inr (1, [.int 6, .int 0, .int 1, .int 1, .int 0, .int 0, .int 0, .long 0, .int 0, .long 1000000000000, .int 0, .int 0, .int 0, .int 0]))] := hD
  refine W.widen (k := 11) (n := 114) (by omega) (by omega) ?_
  refine va_astq hx hb hK hP hD hS 1 0 11 1 rfl rfl rfl rfl (kk_inl (by decide)) dX_init_94 (fun H locs hP hD hS => ?_)
  rw [kk_c6] at hP hD
  have hP : va_P (dC, dI) vwCl [(h0, .inr (2, [.int (if 1 < (if slice < 20 then slice else 20) then (if slice < 20 then slice else 20) else 1), .int (if 1 < (if ceiling < 31 then ceiling else 31) then (if ceiling < 31 then ceiling else 31) else 1), .ref q7, .ref q15, .ref q22, .ref q29, .int 0, .long 0])), (q7, .inl (c7, 8, .inr (.inr (.inr (.inr (va_up (va_up (va_up (va_up (va_up (va_up (va_up (fun _ => none) 0 (some q86)) 1 (some q86_1)) 2 (some q86_2)) 3 (some q86_3)) 4 (some q86_4)) 5 (some q86_5)) 6 (some q86_6))))))), (q15, .inl (c15, 4, .inl (fun _ => 0))), (q22, .inl (c22, 2, .inl (fun _ => 0))), (q29, .inl (c29, 2, .inr (.inr (.inr (.inr (fun _ => none)))))), (q86, .inr (1, [.int 0, .int 0, .int 1, .int 1, .int 0, .int 0, .int 0, .long 0, .int 0, .long 1000000000000, .int 0, .int 0, .int 0, .int 0])), (q86_1, .inr (1, [.int 1, .int 0, .int 1, .int 1, .int 0, .int 0, .int 0, .long 0, .int 0, .long 1000000000000, .int 0, .int 0, .int 0, .int 0])), (q86_2, .inr (1, [.int 2, .int 0, .int 1, .int 1, .int 0, .int 0, .int 0, .long 0, .int 0, .long 1000000000000, .int 0, .int 0, .int 0, .int 0])), (q86_3, .inr (1, [.int 3, .int 0, .int 1, .int 1, .int 0, .int 0, .int 0, .long 0, .int 0, .long 1000000000000, .int 0, .int 0, .int 0, .int 0])), (q86_4, .inr (1, [.int 4, .int 0, .int 1, .int 1, .int 0, .int 0, .int 0, .long 0, .int 0, .long 1000000000000, .int 0, .int 0, .int 0, .int 0])), (q86_5, .inr (1, [.int 5, .int 0, .int 1, .int 1, .int 0, .int 0, .int 0, .long 0, .int 0, .long 1000000000000, .int 0, .int 0, .int 0, .int 0])), (q86_6, .inr (1, [.int 6, .int 0, .int 1, .int 1, .int 0, .int 0, .int 0, .long 0, .int 0, .long 1000000000000, .int 0, .int 0, .int 0, .int 0]))] H := hP
  have hD : va_D A [(h0, .inr (2, [.int (if 1 < (if slice < 20 then slice else 20) then (if slice < 20 then slice else 20) else 1), .int (if 1 < (if ceiling < 31 then ceiling else 31) then (if ceiling < 31 then ceiling else 31) else 1), .ref q7, .ref q15, .ref q22, .ref q29, .int 0, .long 0])), (q7, .inl (c7, 8, .inr (.inr (.inr (.inr (va_up (va_up (va_up (va_up (va_up (va_up (va_up (fun _ => none) 0 (some q86)) 1 (some q86_1)) 2 (some q86_2)) 3 (some q86_3)) 4 (some q86_4)) 5 (some q86_5)) 6 (some q86_6))))))), (q15, .inl (c15, 4, .inl (fun _ => 0))), (q22, .inl (c22, 2, .inl (fun _ => 0))), (q29, .inl (c29, 2, .inr (.inr (.inr (.inr (fun _ => none)))))), (q86, .inr (1, [.int 0, .int 0, .int 1, .int 1, .int 0, .int 0, .int 0, .long 0, .int 0, .long 1000000000000, .int 0, .int 0, .int 0, .int 0])), (q86_1, .inr (1, [.int 1, .int 0, .int 1, .int 1, .int 0, .int 0, .int 0, .long 0, .int 0, .long 1000000000000, .int 0, .int 0, .int 0, .int 0])), (q86_2, .inr (1, [.int 2, .int 0, .int 1, .int 1, .int 0, .int 0, .int 0, .long 0, .int 0, .long 1000000000000, .int 0, .int 0, .int 0, .int 0])), (q86_3, .inr (1, [.int 3, .int 0, .int 1, .int 1, .int 0, .int 0, .int 0, .long 0, .int 0, .long 1000000000000, .int 0, .int 0, .int 0, .int 0])), (q86_4, .inr (1, [.int 4, .int 0, .int 1, .int 1, .int 0, .int 0, .int 0, .long 0, .int 0, .long 1000000000000, .int 0, .int 0, .int 0, .int 0])), (q86_5, .inr (1, [.int 5, .int 0, .int 1, .int 1, .int 0, .int 0, .int 0, .long 0, .int 0, .long 1000000000000, .int 0, .int 0, .int 0, .int 0])), (q86_6, .inr (1, [.int 6, .int 0, .int 1, .int 1, .int 0, .int 0, .int 0, .long 0, .int 0, .long 1000000000000, .int 0, .int 0, .int 0, .int 0]))] := hD
  refine lv_iinc (v := 7) (lv' := [(3, .int 7), (0, .ref h0), (1, .int slice), (2, .int ceiling)]) hx hb dX_init_95 hl (k := 0) rfl (by decide) (by decide) rfl (fun ls hl => ?_)
  refine lv_goto (tgt := 75) hx hb dX_init_98 (by decide) ?_
  refine lv_iload_n hx hb dX_init_75 rfl (lv_at hl 0 rfl) ?_
  refine lv_bipush (v := 8) hx hb dX_init_76 (by decide) ?_
  refine lv_icmp_ge (tgt := 101) hx hb dX_init_78 (by decide) (fun c9 => absurd c9 (by decide)) (fun _ => ?_)
  refine lv_aload_n hx hb dX_init_81 rfl (lv_at hl 1 rfl) ?_
  refine va_get (D := (dC, dI)) (ci := 2) (v := .ref q7) (C := R_X) (T := T_X) (N := 8) hx hb hts uw_X hown hK hP 0 rfl rfl 2 (by decide) (hts _ (List.mem_cons_of_mem _ wd_106)) (fun _ h9 => h9) rfl dX_init_82 ?_
  refine lv_iload_n hx hb dX_init_85 rfl (lv_at hl 0 rfl) ?_
  refine va_new (ci := 1) (fs := [.int 0, .int 0, .int 0, .int 0, .int 0, .int 0, .int 0, .long 0, .int 0, .long 0, .int 0, .int 0, .int 0, .int 0]) (C := R_T) (T := T_T) (N := 14) hx hb hts uw_T ty_T ty_T_ok hown (hts _ (List.mem_cons_of_mem _ wd_14)) (hts _ (List.mem_cons_of_mem _ wd_24)) (hts _ (List.mem_cons_of_mem _ wd_3)) hK hP hD hS hA rfl (fun j hj => by rcases (show j = 0 ∨ j = 1 ∨ j = 2 ∨ j = 3 ∨ j = 4 ∨ j = 5 ∨ j = 6 ∨ j = 7 ∨ j = 8 ∨ j = 9 ∨ j = 10 ∨ j = 11 ∨ j = 12 ∨ j = 13 by omega) with rfl | rfl | rfl | rfl | rfl | rfl | rfl | rfl | rfl | rfl | rfl | rfl | rfl | rfl <;> rfl) (Nat.le_of_ble_eq_true rfl) (Nat.le_of_ble_eq_true rfl) dX_init_86 (fun q86_7 H hP hD hS => ?_)
  have hP : va_P (dC, dI) vwCl [(h0, .inr (2, [.int (if 1 < (if slice < 20 then slice else 20) then (if slice < 20 then slice else 20) else 1), .int (if 1 < (if ceiling < 31 then ceiling else 31) then (if ceiling < 31 then ceiling else 31) else 1), .ref q7, .ref q15, .ref q22, .ref q29, .int 0, .long 0])), (q7, .inl (c7, 8, .inr (.inr (.inr (.inr (va_up (va_up (va_up (va_up (va_up (va_up (va_up (fun _ => none) 0 (some q86)) 1 (some q86_1)) 2 (some q86_2)) 3 (some q86_3)) 4 (some q86_4)) 5 (some q86_5)) 6 (some q86_6))))))), (q15, .inl (c15, 4, .inl (fun _ => 0))), (q22, .inl (c22, 2, .inl (fun _ => 0))), (q29, .inl (c29, 2, .inr (.inr (.inr (.inr (fun _ => none)))))), (q86, .inr (1, [.int 0, .int 0, .int 1, .int 1, .int 0, .int 0, .int 0, .long 0, .int 0, .long 1000000000000, .int 0, .int 0, .int 0, .int 0])), (q86_1, .inr (1, [.int 1, .int 0, .int 1, .int 1, .int 0, .int 0, .int 0, .long 0, .int 0, .long 1000000000000, .int 0, .int 0, .int 0, .int 0])), (q86_2, .inr (1, [.int 2, .int 0, .int 1, .int 1, .int 0, .int 0, .int 0, .long 0, .int 0, .long 1000000000000, .int 0, .int 0, .int 0, .int 0])), (q86_3, .inr (1, [.int 3, .int 0, .int 1, .int 1, .int 0, .int 0, .int 0, .long 0, .int 0, .long 1000000000000, .int 0, .int 0, .int 0, .int 0])), (q86_4, .inr (1, [.int 4, .int 0, .int 1, .int 1, .int 0, .int 0, .int 0, .long 0, .int 0, .long 1000000000000, .int 0, .int 0, .int 0, .int 0])), (q86_5, .inr (1, [.int 5, .int 0, .int 1, .int 1, .int 0, .int 0, .int 0, .long 0, .int 0, .long 1000000000000, .int 0, .int 0, .int 0, .int 0])), (q86_6, .inr (1, [.int 6, .int 0, .int 1, .int 1, .int 0, .int 0, .int 0, .long 0, .int 0, .long 1000000000000, .int 0, .int 0, .int 0, .int 0])), (q86_7, .inr (1, [.int 0, .int 0, .int 0, .int 0, .int 0, .int 0, .int 0, .long 0, .int 0, .long 0, .int 0, .int 0, .int 0, .int 0]))] H := hP
  have hD : va_D A [(h0, .inr (2, [.int (if 1 < (if slice < 20 then slice else 20) then (if slice < 20 then slice else 20) else 1), .int (if 1 < (if ceiling < 31 then ceiling else 31) then (if ceiling < 31 then ceiling else 31) else 1), .ref q7, .ref q15, .ref q22, .ref q29, .int 0, .long 0])), (q7, .inl (c7, 8, .inr (.inr (.inr (.inr (va_up (va_up (va_up (va_up (va_up (va_up (va_up (fun _ => none) 0 (some q86)) 1 (some q86_1)) 2 (some q86_2)) 3 (some q86_3)) 4 (some q86_4)) 5 (some q86_5)) 6 (some q86_6))))))), (q15, .inl (c15, 4, .inl (fun _ => 0))), (q22, .inl (c22, 2, .inl (fun _ => 0))), (q29, .inl (c29, 2, .inr (.inr (.inr (.inr (fun _ => none)))))), (q86, .inr (1, [.int 0, .int 0, .int 1, .int 1, .int 0, .int 0, .int 0, .long 0, .int 0, .long 1000000000000, .int 0, .int 0, .int 0, .int 0])), (q86_1, .inr (1, [.int 1, .int 0, .int 1, .int 1, .int 0, .int 0, .int 0, .long 0, .int 0, .long 1000000000000, .int 0, .int 0, .int 0, .int 0])), (q86_2, .inr (1, [.int 2, .int 0, .int 1, .int 1, .int 0, .int 0, .int 0, .long 0, .int 0, .long 1000000000000, .int 0, .int 0, .int 0, .int 0])), (q86_3, .inr (1, [.int 3, .int 0, .int 1, .int 1, .int 0, .int 0, .int 0, .long 0, .int 0, .long 1000000000000, .int 0, .int 0, .int 0, .int 0])), (q86_4, .inr (1, [.int 4, .int 0, .int 1, .int 1, .int 0, .int 0, .int 0, .long 0, .int 0, .long 1000000000000, .int 0, .int 0, .int 0, .int 0])), (q86_5, .inr (1, [.int 5, .int 0, .int 1, .int 1, .int 0, .int 0, .int 0, .long 0, .int 0, .long 1000000000000, .int 0, .int 0, .int 0, .int 0])), (q86_6, .inr (1, [.int 6, .int 0, .int 1, .int 1, .int 0, .int 0, .int 0, .long 0, .int 0, .long 1000000000000, .int 0, .int 0, .int 0, .int 0])), (q86_7, .inr (1, [.int 0, .int 0, .int 0, .int 0, .int 0, .int 0, .int 0, .long 0, .int 0, .long 0, .int 0, .int 0, .int 0, .int 0]))] := hD
  refine W.widen (k := 12) (n := 128) (by omega) (by omega) ?_
  refine lv_dup hx hb dX_init_89 rfl ?_
  refine lv_iload_n hx hb dX_init_90 rfl (lv_at hl 0 rfl) ?_
  have hPc := hP.sub (ws' := [(q86_7, .inr (1, [.int 0, .int 0, .int 0, .int 0, .int 0, .int 0, .int 0, .long 0, .int 0, .long 0, .int 0, .int 0, .int 0, .int 0]))]) [12] rfl
  have hKc := hK.sub (tys' := []) [] rfl
  have hFc : ∀ q, q = q86_7 → A q := fun q h9 => by rw [h9]; exact hD.2 12 _ rfl
  refine va_callv (va_runI (As := [.int 7]) (rest := [.ref q86_7, .int 7, .ref q7]) ⟨hx, hb, hml, hown, hts⟩ (xc_T_init l dC dI q86_7 7) (cwI 1 hts (kn_I wd_27) rfl rfl rfl (hts _ (List.mem_cons_of_mem _ wd_3)) (hts _ (List.mem_cons_of_mem _ wd_25)) (hts _ (List.mem_cons_of_mem _ wd_26)) rfl (by decide +kernel) ⟨Nat.le_of_ble_eq_true rfl, Nat.le_of_ble_eq_true rfl⟩) ⟨kk_blind, kk_pre hPc hKc⟩ rfl rfl hl.1 rfl (lv_room (Nat.le_of_ble_eq_true rfl)) dX_init_91 ⟨Nat.le_of_ble_eq_true rfl, Nat.le_of_ble_eq_true rfl⟩) hS (fun q _ h => hFc q h) hFc (fun u t H1 locs ht hvm hw hB hz1 hk1 hS => ?_)
  have hP1 := hB.1
  rw [ht] at hP1
  have hP := kk_last (ws := [(h0, .inr (2, [.int (if 1 < (if slice < 20 then slice else 20) then (if slice < 20 then slice else 20) else 1), .int (if 1 < (if ceiling < 31 then ceiling else 31) then (if ceiling < 31 then ceiling else 31) else 1), .ref q7, .ref q15, .ref q22, .ref q29, .int 0, .long 0])), (q7, .inl (c7, 8, .inr (.inr (.inr (.inr (va_up (va_up (va_up (va_up (va_up (va_up (va_up (fun _ => none) 0 (some q86)) 1 (some q86_1)) 2 (some q86_2)) 3 (some q86_3)) 4 (some q86_4)) 5 (some q86_5)) 6 (some q86_6))))))), (q15, .inl (c15, 4, .inl (fun _ => 0))), (q22, .inl (c22, 2, .inl (fun _ => 0))), (q29, .inl (c29, 2, .inr (.inr (.inr (.inr (fun _ => none)))))), (q86, .inr (1, [.int 0, .int 0, .int 1, .int 1, .int 0, .int 0, .int 0, .long 0, .int 0, .long 1000000000000, .int 0, .int 0, .int 0, .int 0])), (q86_1, .inr (1, [.int 1, .int 0, .int 1, .int 1, .int 0, .int 0, .int 0, .long 0, .int 0, .long 1000000000000, .int 0, .int 0, .int 0, .int 0])), (q86_2, .inr (1, [.int 2, .int 0, .int 1, .int 1, .int 0, .int 0, .int 0, .long 0, .int 0, .long 1000000000000, .int 0, .int 0, .int 0, .int 0])), (q86_3, .inr (1, [.int 3, .int 0, .int 1, .int 1, .int 0, .int 0, .int 0, .long 0, .int 0, .long 1000000000000, .int 0, .int 0, .int 0, .int 0])), (q86_4, .inr (1, [.int 4, .int 0, .int 1, .int 1, .int 0, .int 0, .int 0, .long 0, .int 0, .long 1000000000000, .int 0, .int 0, .int 0, .int 0])), (q86_5, .inr (1, [.int 5, .int 0, .int 1, .int 1, .int 0, .int 0, .int 0, .long 0, .int 0, .long 1000000000000, .int 0, .int 0, .int 0, .int 0])), (q86_6, .inr (1, [.int 6, .int 0, .int 1, .int 1, .int 0, .int 0, .int 0, .long 0, .int 0, .long 1000000000000, .int 0, .int 0, .int 0, .int 0]))]) hP hD hk1 hP1
  have hD := kk_lastD (ws := [(h0, .inr (2, [.int (if 1 < (if slice < 20 then slice else 20) then (if slice < 20 then slice else 20) else 1), .int (if 1 < (if ceiling < 31 then ceiling else 31) then (if ceiling < 31 then ceiling else 31) else 1), .ref q7, .ref q15, .ref q22, .ref q29, .int 0, .long 0])), (q7, .inl (c7, 8, .inr (.inr (.inr (.inr (va_up (va_up (va_up (va_up (va_up (va_up (va_up (fun _ => none) 0 (some q86)) 1 (some q86_1)) 2 (some q86_2)) 3 (some q86_3)) 4 (some q86_4)) 5 (some q86_5)) 6 (some q86_6))))))), (q15, .inl (c15, 4, .inl (fun _ => 0))), (q22, .inl (c22, 2, .inl (fun _ => 0))), (q29, .inl (c29, 2, .inr (.inr (.inr (.inr (fun _ => none)))))), (q86, .inr (1, [.int 0, .int 0, .int 1, .int 1, .int 0, .int 0, .int 0, .long 0, .int 0, .long 1000000000000, .int 0, .int 0, .int 0, .int 0])), (q86_1, .inr (1, [.int 1, .int 0, .int 1, .int 1, .int 0, .int 0, .int 0, .long 0, .int 0, .long 1000000000000, .int 0, .int 0, .int 0, .int 0])), (q86_2, .inr (1, [.int 2, .int 0, .int 1, .int 1, .int 0, .int 0, .int 0, .long 0, .int 0, .long 1000000000000, .int 0, .int 0, .int 0, .int 0])), (q86_3, .inr (1, [.int 3, .int 0, .int 1, .int 1, .int 0, .int 0, .int 0, .long 0, .int 0, .long 1000000000000, .int 0, .int 0, .int 0, .int 0])), (q86_4, .inr (1, [.int 4, .int 0, .int 1, .int 1, .int 0, .int 0, .int 0, .long 0, .int 0, .long 1000000000000, .int 0, .int 0, .int 0, .int 0])), (q86_5, .inr (1, [.int 5, .int 0, .int 1, .int 1, .int 0, .int 0, .int 0, .long 0, .int 0, .long 1000000000000, .int 0, .int 0, .int 0, .int 0])), (q86_6, .inr (1, [.int 6, .int 0, .int 1, .int 1, .int 0, .int 0, .int 0, .long 0, .int 0, .long 1000000000000, .int 0, .int 0, .int 0, .int 0]))]) (e2 := .inr (1, [.int 7, .int 0, .int 1, .int 1, .int 0, .int 0, .int 0, .long 0, .int 0, .long 1000000000000, .int 0, .int 0, .int 0, .int 0])) hD
  generalize H1 = H at hP hS ⊢
  have hP : va_P (dC, dI) vwCl [(h0, .inr (2, [.int (if 1 < (if slice < 20 then slice else 20) then (if slice < 20 then slice else 20) else 1), .int (if 1 < (if ceiling < 31 then ceiling else 31) then (if ceiling < 31 then ceiling else 31) else 1), .ref q7, .ref q15, .ref q22, .ref q29, .int 0, .long 0])), (q7, .inl (c7, 8, .inr (.inr (.inr (.inr (va_up (va_up (va_up (va_up (va_up (va_up (va_up (fun _ => none) 0 (some q86)) 1 (some q86_1)) 2 (some q86_2)) 3 (some q86_3)) 4 (some q86_4)) 5 (some q86_5)) 6 (some q86_6))))))), (q15, .inl (c15, 4, .inl (fun _ => 0))), (q22, .inl (c22, 2, .inl (fun _ => 0))), (q29, .inl (c29, 2, .inr (.inr (.inr (.inr (fun _ => none)))))), (q86, .inr (1, [.int 0, .int 0, .int 1, .int 1, .int 0, .int 0, .int 0, .long 0, .int 0, .long 1000000000000, .int 0, .int 0, .int 0, .int 0])), (q86_1, .inr (1, [.int 1, .int 0, .int 1, .int 1, .int 0, .int 0, .int 0, .long 0, .int 0, .long 1000000000000, .int 0, .int 0, .int 0, .int 0])), (q86_2, .inr (1, [.int 2, .int 0, .int 1, .int 1, .int 0, .int 0, .int 0, .long 0, .int 0, .long 1000000000000, .int 0, .int 0, .int 0, .int 0])), (q86_3, .inr (1, [.int 3, .int 0, .int 1, .int 1, .int 0, .int 0, .int 0, .long 0, .int 0, .long 1000000000000, .int 0, .int 0, .int 0, .int 0])), (q86_4, .inr (1, [.int 4, .int 0, .int 1, .int 1, .int 0, .int 0, .int 0, .long 0, .int 0, .long 1000000000000, .int 0, .int 0, .int 0, .int 0])), (q86_5, .inr (1, [.int 5, .int 0, .int 1, .int 1, .int 0, .int 0, .int 0, .long 0, .int 0, .long 1000000000000, .int 0, .int 0, .int 0, .int 0])), (q86_6, .inr (1, [.int 6, .int 0, .int 1, .int 1, .int 0, .int 0, .int 0, .long 0, .int 0, .long 1000000000000, .int 0, .int 0, .int 0, .int 0])), (q86_7, .inr (1, [.int 7, .int 0, .int 1, .int 1, .int 0, .int 0, .int 0, .long 0, .int 0, .long 1000000000000, .int 0, .int 0, .int 0, .int 0]))] H := hP
  have hD : va_D A [(h0, .inr (2, [.int (if 1 < (if slice < 20 then slice else 20) then (if slice < 20 then slice else 20) else 1), .int (if 1 < (if ceiling < 31 then ceiling else 31) then (if ceiling < 31 then ceiling else 31) else 1), .ref q7, .ref q15, .ref q22, .ref q29, .int 0, .long 0])), (q7, .inl (c7, 8, .inr (.inr (.inr (.inr (va_up (va_up (va_up (va_up (va_up (va_up (va_up (fun _ => none) 0 (some q86)) 1 (some q86_1)) 2 (some q86_2)) 3 (some q86_3)) 4 (some q86_4)) 5 (some q86_5)) 6 (some q86_6))))))), (q15, .inl (c15, 4, .inl (fun _ => 0))), (q22, .inl (c22, 2, .inl (fun _ => 0))), (q29, .inl (c29, 2, .inr (.inr (.inr (.inr (fun _ => none)))))), (q86, .inr (1, [.int 0, .int 0, .int 1, .int 1, .int 0, .int 0, .int 0, .long 0, .int 0, .long 1000000000000, .int 0, .int 0, .int 0, .int 0])), (q86_1, .inr (1, [.int 1, .int 0, .int 1, .int 1, .int 0, .int 0, .int 0, .long 0, .int 0, .long 1000000000000, .int 0, .int 0, .int 0, .int 0])), (q86_2, .inr (1, [.int 2, .int 0, .int 1, .int 1, .int 0, .int 0, .int 0, .long 0, .int 0, .long 1000000000000, .int 0, .int 0, .int 0, .int 0])), (q86_3, .inr (1, [.int 3, .int 0, .int 1, .int 1, .int 0, .int 0, .int 0, .long 0, .int 0, .long 1000000000000, .int 0, .int 0, .int 0, .int 0])), (q86_4, .inr (1, [.int 4, .int 0, .int 1, .int 1, .int 0, .int 0, .int 0, .long 0, .int 0, .long 1000000000000, .int 0, .int 0, .int 0, .int 0])), (q86_5, .inr (1, [.int 5, .int 0, .int 1, .int 1, .int 0, .int 0, .int 0, .long 0, .int 0, .long 1000000000000, .int 0, .int 0, .int 0, .int 0])), (q86_6, .inr (1, [.int 6, .int 0, .int 1, .int 1, .int 0, .int 0, .int 0, .long 0, .int 0, .long 1000000000000, .int 0, .int 0, .int 0, .int 0])), (q86_7, .inr (1, [.int 7, .int 0, .int 1, .int 1, .int 0, .int 0, .int 0, .long 0, .int 0, .long 1000000000000, .int 0, .int 0, .int 0, .int 0]))] := hD
  refine W.widen (k := 12) (n := 128) (by omega) (by omega) ?_
  refine va_astq hx hb hK hP hD hS 1 0 12 1 rfl rfl rfl rfl (kk_inl (by decide)) dX_init_94 (fun H locs hP hD hS => ?_)
  rw [kk_c7] at hP hD
  have hP : va_P (dC, dI) vwCl [(h0, .inr (2, [.int (if 1 < (if slice < 20 then slice else 20) then (if slice < 20 then slice else 20) else 1), .int (if 1 < (if ceiling < 31 then ceiling else 31) then (if ceiling < 31 then ceiling else 31) else 1), .ref q7, .ref q15, .ref q22, .ref q29, .int 0, .long 0])), (q7, .inl (c7, 8, .inr (.inr (.inr (.inr (va_up (va_up (va_up (va_up (va_up (va_up (va_up (va_up (fun _ => none) 0 (some q86)) 1 (some q86_1)) 2 (some q86_2)) 3 (some q86_3)) 4 (some q86_4)) 5 (some q86_5)) 6 (some q86_6)) 7 (some q86_7))))))), (q15, .inl (c15, 4, .inl (fun _ => 0))), (q22, .inl (c22, 2, .inl (fun _ => 0))), (q29, .inl (c29, 2, .inr (.inr (.inr (.inr (fun _ => none)))))), (q86, .inr (1, [.int 0, .int 0, .int 1, .int 1, .int 0, .int 0, .int 0, .long 0, .int 0, .long 1000000000000, .int 0, .int 0, .int 0, .int 0])), (q86_1, .inr (1, [.int 1, .int 0, .int 1, .int 1, .int 0, .int 0, .int 0, .long 0, .int 0, .long 1000000000000, .int 0, .int 0, .int 0, .int 0])), (q86_2, .inr (1, [.int 2, .int 0, .int 1, .int 1, .int 0, .int 0, .int 0, .long 0, .int 0, .long 1000000000000, .int 0, .int 0, .int 0, .int 0])), (q86_3, .inr (1, [.int 3, .int 0, .int 1, .int 1, .int 0, .int 0, .int 0, .long 0, .int 0, .long 1000000000000, .int 0, .int 0, .int 0, .int 0])), (q86_4, .inr (1, [.int 4, .int 0, .int 1, .int 1, .int 0, .int 0, .int 0, .long 0, .int 0, .long 1000000000000, .int 0, .int 0, .int 0, .int 0])), (q86_5, .inr (1, [.int 5, .int 0, .int 1, .int 1, .int 0, .int 0, .int 0, .long 0, .int 0, .long 1000000000000, .int 0, .int 0, .int 0, .int 0])), (q86_6, .inr (1, [.int 6, .int 0, .int 1, .int 1, .int 0, .int 0, .int 0, .long 0, .int 0, .long 1000000000000, .int 0, .int 0, .int 0, .int 0])), (q86_7, .inr (1, [.int 7, .int 0, .int 1, .int 1, .int 0, .int 0, .int 0, .long 0, .int 0, .long 1000000000000, .int 0, .int 0, .int 0, .int 0]))] H := hP
  have hD : va_D A [(h0, .inr (2, [.int (if 1 < (if slice < 20 then slice else 20) then (if slice < 20 then slice else 20) else 1), .int (if 1 < (if ceiling < 31 then ceiling else 31) then (if ceiling < 31 then ceiling else 31) else 1), .ref q7, .ref q15, .ref q22, .ref q29, .int 0, .long 0])), (q7, .inl (c7, 8, .inr (.inr (.inr (.inr (va_up (va_up (va_up (va_up (va_up (va_up (va_up (va_up (fun _ => none) 0 (some q86)) 1 (some q86_1)) 2 (some q86_2)) 3 (some q86_3)) 4 (some q86_4)) 5 (some q86_5)) 6 (some q86_6)) 7 (some q86_7))))))), (q15, .inl (c15, 4, .inl (fun _ => 0))), (q22, .inl (c22, 2, .inl (fun _ => 0))), (q29, .inl (c29, 2, .inr (.inr (.inr (.inr (fun _ => none)))))), (q86, .inr (1, [.int 0, .int 0, .int 1, .int 1, .int 0, .int 0, .int 0, .long 0, .int 0, .long 1000000000000, .int 0, .int 0, .int 0, .int 0])), (q86_1, .inr (1, [.int 1, .int 0, .int 1, .int 1, .int 0, .int 0, .int 0, .long 0, .int 0, .long 1000000000000, .int 0, .int 0, .int 0, .int 0])), (q86_2, .inr (1, [.int 2, .int 0, .int 1, .int 1, .int 0, .int 0, .int 0, .long 0, .int 0, .long 1000000000000, .int 0, .int 0, .int 0, .int 0])), (q86_3, .inr (1, [.int 3, .int 0, .int 1, .int 1, .int 0, .int 0, .int 0, .long 0, .int 0, .long 1000000000000, .int 0, .int 0, .int 0, .int 0])), (q86_4, .inr (1, [.int 4, .int 0, .int 1, .int 1, .int 0, .int 0, .int 0, .long 0, .int 0, .long 1000000000000, .int 0, .int 0, .int 0, .int 0])), (q86_5, .inr (1, [.int 5, .int 0, .int 1, .int 1, .int 0, .int 0, .int 0, .long 0, .int 0, .long 1000000000000, .int 0, .int 0, .int 0, .int 0])), (q86_6, .inr (1, [.int 6, .int 0, .int 1, .int 1, .int 0, .int 0, .int 0, .long 0, .int 0, .long 1000000000000, .int 0, .int 0, .int 0, .int 0])), (q86_7, .inr (1, [.int 7, .int 0, .int 1, .int 1, .int 0, .int 0, .int 0, .long 0, .int 0, .long 1000000000000, .int 0, .int 0, .int 0, .int 0]))] := hD
  refine lv_iinc (v := 8) (lv' := [(3, .int 8), (0, .ref h0), (1, .int slice), (2, .int ceiling)]) hx hb dX_init_95 hl (k := 0) rfl (by decide) (by decide) rfl (fun ls hl => ?_)
  refine lv_goto (tgt := 75) hx hb dX_init_98 (by decide) ?_
  refine lv_iload_n hx hb dX_init_75 rfl (lv_at hl 0 rfl) ?_
  refine lv_bipush (v := 8) hx hb dX_init_76 (by decide) ?_
  refine lv_icmp_ge (tgt := 101) hx hb dX_init_78 (by decide) (fun _ => ?_) (fun c9 => absurd (by decide) c9)
  refine lv_iconst (v := 0) hx hb dX_init_101 (by decide) ?_
  refine lv_istore_n (lv' := [(3, .int 0), (0, .ref h0), (1, .int slice), (2, .int ceiling)]) hx hb dX_init_102 rfl hl (by decide) rfl (fun ls hl => ?_)
  refine lv_iload_n hx hb dX_init_103 rfl (lv_at hl 0 rfl) ?_
  refine lv_iconst (v := 4) hx hb dX_init_104 (by decide) ?_
  refine lv_icmp_ge (tgt := 121) hx hb dX_init_105 (by decide) (fun c9 => absurd c9 (by decide)) (fun _ => ?_)
  refine lv_aload_n hx hb dX_init_108 rfl (lv_at hl 1 rfl) ?_
  refine va_get (D := (dC, dI)) (ci := 2) (v := .ref q15) (C := R_X) (T := T_X) (N := 8) hx hb hts uw_X hown hK hP 0 rfl rfl 3 (by decide) (hts _ (List.mem_cons_of_mem _ wd_107)) (fun _ h9 => h9) rfl dX_init_109 ?_
  refine lv_iload_n hx hb dX_init_112 rfl (lv_at hl 0 rfl) ?_
  refine lv_iconst (v := (-1)) hx hb dX_init_113 (by decide) ?_
  refine va_iast hx hb hK hP hD hS 2 1 rfl rfl (kk_inl (by decide)) dX_init_114 (fun H locs hP hD hS => ?_)
  rw [kk_c0] at hP hD
  have hP : va_P (dC, dI) vwCl [(h0, .inr (2, [.int (if 1 < (if slice < 20 then slice else 20) then (if slice < 20 then slice else 20) else 1), .int (if 1 < (if ceiling < 31 then ceiling else 31) then (if ceiling < 31 then ceiling else 31) else 1), .ref q7, .ref q15, .ref q22, .ref q29, .int 0, .long 0])), (q7, .inl (c7, 8, .inr (.inr (.inr (.inr (va_up (va_up (va_up (va_up (va_up (va_up (va_up (va_up (fun _ => none) 0 (some q86)) 1 (some q86_1)) 2 (some q86_2)) 3 (some q86_3)) 4 (some q86_4)) 5 (some q86_5)) 6 (some q86_6)) 7 (some q86_7))))))), (q15, .inl (c15, 4, .inl (upd (fun _ => 0) 0 (-1)))), (q22, .inl (c22, 2, .inl (fun _ => 0))), (q29, .inl (c29, 2, .inr (.inr (.inr (.inr (fun _ => none)))))), (q86, .inr (1, [.int 0, .int 0, .int 1, .int 1, .int 0, .int 0, .int 0, .long 0, .int 0, .long 1000000000000, .int 0, .int 0, .int 0, .int 0])), (q86_1, .inr (1, [.int 1, .int 0, .int 1, .int 1, .int 0, .int 0, .int 0, .long 0, .int 0, .long 1000000000000, .int 0, .int 0, .int 0, .int 0])), (q86_2, .inr (1, [.int 2, .int 0, .int 1, .int 1, .int 0, .int 0, .int 0, .long 0, .int 0, .long 1000000000000, .int 0, .int 0, .int 0, .int 0])), (q86_3, .inr (1, [.int 3, .int 0, .int 1, .int 1, .int 0, .int 0, .int 0, .long 0, .int 0, .long 1000000000000, .int 0, .int 0, .int 0, .int 0])), (q86_4, .inr (1, [.int 4, .int 0, .int 1, .int 1, .int 0, .int 0, .int 0, .long 0, .int 0, .long 1000000000000, .int 0, .int 0, .int 0, .int 0])), (q86_5, .inr (1, [.int 5, .int 0, .int 1, .int 1, .int 0, .int 0, .int 0, .long 0, .int 0, .long 1000000000000, .int 0, .int 0, .int 0, .int 0])), (q86_6, .inr (1, [.int 6, .int 0, .int 1, .int 1, .int 0, .int 0, .int 0, .long 0, .int 0, .long 1000000000000, .int 0, .int 0, .int 0, .int 0])), (q86_7, .inr (1, [.int 7, .int 0, .int 1, .int 1, .int 0, .int 0, .int 0, .long 0, .int 0, .long 1000000000000, .int 0, .int 0, .int 0, .int 0]))] H := hP
  have hD : va_D A [(h0, .inr (2, [.int (if 1 < (if slice < 20 then slice else 20) then (if slice < 20 then slice else 20) else 1), .int (if 1 < (if ceiling < 31 then ceiling else 31) then (if ceiling < 31 then ceiling else 31) else 1), .ref q7, .ref q15, .ref q22, .ref q29, .int 0, .long 0])), (q7, .inl (c7, 8, .inr (.inr (.inr (.inr (va_up (va_up (va_up (va_up (va_up (va_up (va_up (va_up (fun _ => none) 0 (some q86)) 1 (some q86_1)) 2 (some q86_2)) 3 (some q86_3)) 4 (some q86_4)) 5 (some q86_5)) 6 (some q86_6)) 7 (some q86_7))))))), (q15, .inl (c15, 4, .inl (upd (fun _ => 0) 0 (-1)))), (q22, .inl (c22, 2, .inl (fun _ => 0))), (q29, .inl (c29, 2, .inr (.inr (.inr (.inr (fun _ => none)))))), (q86, .inr (1, [.int 0, .int 0, .int 1, .int 1, .int 0, .int 0, .int 0, .long 0, .int 0, .long 1000000000000, .int 0, .int 0, .int 0, .int 0])), (q86_1, .inr (1, [.int 1, .int 0, .int 1, .int 1, .int 0, .int 0, .int 0, .long 0, .int 0, .long 1000000000000, .int 0, .int 0, .int 0, .int 0])), (q86_2, .inr (1, [.int 2, .int 0, .int 1, .int 1, .int 0, .int 0, .int 0, .long 0, .int 0, .long 1000000000000, .int 0, .int 0, .int 0, .int 0])), (q86_3, .inr (1, [.int 3, .int 0, .int 1, .int 1, .int 0, .int 0, .int 0, .long 0, .int 0, .long 1000000000000, .int 0, .int 0, .int 0, .int 0])), (q86_4, .inr (1, [.int 4, .int 0, .int 1, .int 1, .int 0, .int 0, .int 0, .long 0, .int 0, .long 1000000000000, .int 0, .int 0, .int 0, .int 0])), (q86_5, .inr (1, [.int 5, .int 0, .int 1, .int 1, .int 0, .int 0, .int 0, .long 0, .int 0, .long 1000000000000, .int 0, .int 0, .int 0, .int 0])), (q86_6, .inr (1, [.int 6, .int 0, .int 1, .int 1, .int 0, .int 0, .int 0, .long 0, .int 0, .long 1000000000000, .int 0, .int 0, .int 0, .int 0])), (q86_7, .inr (1, [.int 7, .int 0, .int 1, .int 1, .int 0, .int 0, .int 0, .long 0, .int 0, .long 1000000000000, .int 0, .int 0, .int 0, .int 0]))] := hD
  refine lv_iinc (v := 1) (lv' := [(3, .int 1), (0, .ref h0), (1, .int slice), (2, .int ceiling)]) hx hb dX_init_115 hl (k := 0) rfl (by decide) (by decide) rfl (fun ls hl => ?_)
  refine lv_goto (tgt := 103) hx hb dX_init_118 (by decide) ?_
  refine lv_iload_n hx hb dX_init_103 rfl (lv_at hl 0 rfl) ?_
  refine lv_iconst (v := 4) hx hb dX_init_104 (by decide) ?_
  refine lv_icmp_ge (tgt := 121) hx hb dX_init_105 (by decide) (fun c9 => absurd c9 (by decide)) (fun _ => ?_)
  refine lv_aload_n hx hb dX_init_108 rfl (lv_at hl 1 rfl) ?_
  refine va_get (D := (dC, dI)) (ci := 2) (v := .ref q15) (C := R_X) (T := T_X) (N := 8) hx hb hts uw_X hown hK hP 0 rfl rfl 3 (by decide) (hts _ (List.mem_cons_of_mem _ wd_107)) (fun _ h9 => h9) rfl dX_init_109 ?_
  refine lv_iload_n hx hb dX_init_112 rfl (lv_at hl 0 rfl) ?_
  refine lv_iconst (v := (-1)) hx hb dX_init_113 (by decide) ?_
  refine va_iast hx hb hK hP hD hS 2 1 rfl rfl (kk_inl (by decide)) dX_init_114 (fun H locs hP hD hS => ?_)
  rw [kk_c1] at hP hD
  have hP : va_P (dC, dI) vwCl [(h0, .inr (2, [.int (if 1 < (if slice < 20 then slice else 20) then (if slice < 20 then slice else 20) else 1), .int (if 1 < (if ceiling < 31 then ceiling else 31) then (if ceiling < 31 then ceiling else 31) else 1), .ref q7, .ref q15, .ref q22, .ref q29, .int 0, .long 0])), (q7, .inl (c7, 8, .inr (.inr (.inr (.inr (va_up (va_up (va_up (va_up (va_up (va_up (va_up (va_up (fun _ => none) 0 (some q86)) 1 (some q86_1)) 2 (some q86_2)) 3 (some q86_3)) 4 (some q86_4)) 5 (some q86_5)) 6 (some q86_6)) 7 (some q86_7))))))), (q15, .inl (c15, 4, .inl (upd (upd (fun _ => 0) 0 (-1)) 1 (-1)))), (q22, .inl (c22, 2, .inl (fun _ => 0))), (q29, .inl (c29, 2, .inr (.inr (.inr (.inr (fun _ => none)))))), (q86, .inr (1, [.int 0, .int 0, .int 1, .int 1, .int 0, .int 0, .int 0, .long 0, .int 0, .long 1000000000000, .int 0, .int 0, .int 0, .int 0])), (q86_1, .inr (1, [.int 1, .int 0, .int 1, .int 1, .int 0, .int 0, .int 0, .long 0, .int 0, .long 1000000000000, .int 0, .int 0, .int 0, .int 0])), (q86_2, .inr (1, [.int 2, .int 0, .int 1, .int 1, .int 0, .int 0, .int 0, .long 0, .int 0, .long 1000000000000, .int 0, .int 0, .int 0, .int 0])), (q86_3, .inr (1, [.int 3, .int 0, .int 1, .int 1, .int 0, .int 0, .int 0, .long 0, .int 0, .long 1000000000000, .int 0, .int 0, .int 0, .int 0])), (q86_4, .inr (1, [.int 4, .int 0, .int 1, .int 1, .int 0, .int 0, .int 0, .long 0, .int 0, .long 1000000000000, .int 0, .int 0, .int 0, .int 0])), (q86_5, .inr (1, [.int 5, .int 0, .int 1, .int 1, .int 0, .int 0, .int 0, .long 0, .int 0, .long 1000000000000, .int 0, .int 0, .int 0, .int 0])), (q86_6, .inr (1, [.int 6, .int 0, .int 1, .int 1, .int 0, .int 0, .int 0, .long 0, .int 0, .long 1000000000000, .int 0, .int 0, .int 0, .int 0])), (q86_7, .inr (1, [.int 7, .int 0, .int 1, .int 1, .int 0, .int 0, .int 0, .long 0, .int 0, .long 1000000000000, .int 0, .int 0, .int 0, .int 0]))] H := hP
  have hD : va_D A [(h0, .inr (2, [.int (if 1 < (if slice < 20 then slice else 20) then (if slice < 20 then slice else 20) else 1), .int (if 1 < (if ceiling < 31 then ceiling else 31) then (if ceiling < 31 then ceiling else 31) else 1), .ref q7, .ref q15, .ref q22, .ref q29, .int 0, .long 0])), (q7, .inl (c7, 8, .inr (.inr (.inr (.inr (va_up (va_up (va_up (va_up (va_up (va_up (va_up (va_up (fun _ => none) 0 (some q86)) 1 (some q86_1)) 2 (some q86_2)) 3 (some q86_3)) 4 (some q86_4)) 5 (some q86_5)) 6 (some q86_6)) 7 (some q86_7))))))), (q15, .inl (c15, 4, .inl (upd (upd (fun _ => 0) 0 (-1)) 1 (-1)))), (q22, .inl (c22, 2, .inl (fun _ => 0))), (q29, .inl (c29, 2, .inr (.inr (.inr (.inr (fun _ => none)))))), (q86, .inr (1, [.int 0, .int 0, .int 1, .int 1, .int 0, .int 0, .int 0, .long 0, .int 0, .long 1000000000000, .int 0, .int 0, .int 0, .int 0])), (q86_1, .inr (1, [.int 1, .int 0, .int 1, .int 1, .int 0, .int 0, .int 0, .long 0, .int 0, .long 1000000000000, .int 0, .int 0, .int 0, .int 0])), (q86_2, .inr (1, [.int 2, .int 0, .int 1, .int 1, .int 0, .int 0, .int 0, .long 0, .int 0, .long 1000000000000, .int 0, .int 0, .int 0, .int 0])), (q86_3, .inr (1, [.int 3, .int 0, .int 1, .int 1, .int 0, .int 0, .int 0, .long 0, .int 0, .long 1000000000000, .int 0, .int 0, .int 0, .int 0])), (q86_4, .inr (1, [.int 4, .int 0, .int 1, .int 1, .int 0, .int 0, .int 0, .long 0, .int 0, .long 1000000000000, .int 0, .int 0, .int 0, .int 0])), (q86_5, .inr (1, [.int 5, .int 0, .int 1, .int 1, .int 0, .int 0, .int 0, .long 0, .int 0, .long 1000000000000, .int 0, .int 0, .int 0, .int 0])), (q86_6, .inr (1, [.int 6, .int 0, .int 1, .int 1, .int 0, .int 0, .int 0, .long 0, .int 0, .long 1000000000000, .int 0, .int 0, .int 0, .int 0])), (q86_7, .inr (1, [.int 7, .int 0, .int 1, .int 1, .int 0, .int 0, .int 0, .long 0, .int 0, .long 1000000000000, .int 0, .int 0, .int 0, .int 0]))] := hD
  refine lv_iinc (v := 2) (lv' := [(3, .int 2), (0, .ref h0), (1, .int slice), (2, .int ceiling)]) hx hb dX_init_115 hl (k := 0) rfl (by decide) (by decide) rfl (fun ls hl => ?_)
  refine lv_goto (tgt := 103) hx hb dX_init_118 (by decide) ?_
  refine lv_iload_n hx hb dX_init_103 rfl (lv_at hl 0 rfl) ?_
  refine lv_iconst (v := 4) hx hb dX_init_104 (by decide) ?_
  refine lv_icmp_ge (tgt := 121) hx hb dX_init_105 (by decide) (fun c9 => absurd c9 (by decide)) (fun _ => ?_)
  refine lv_aload_n hx hb dX_init_108 rfl (lv_at hl 1 rfl) ?_
  refine va_get (D := (dC, dI)) (ci := 2) (v := .ref q15) (C := R_X) (T := T_X) (N := 8) hx hb hts uw_X hown hK hP 0 rfl rfl 3 (by decide) (hts _ (List.mem_cons_of_mem _ wd_107)) (fun _ h9 => h9) rfl dX_init_109 ?_
  refine lv_iload_n hx hb dX_init_112 rfl (lv_at hl 0 rfl) ?_
  refine lv_iconst (v := (-1)) hx hb dX_init_113 (by decide) ?_
  refine va_iast hx hb hK hP hD hS 2 1 rfl rfl (kk_inl (by decide)) dX_init_114 (fun H locs hP hD hS => ?_)
  rw [kk_c2] at hP hD
  have hP : va_P (dC, dI) vwCl [(h0, .inr (2, [.int (if 1 < (if slice < 20 then slice else 20) then (if slice < 20 then slice else 20) else 1), .int (if 1 < (if ceiling < 31 then ceiling else 31) then (if ceiling < 31 then ceiling else 31) else 1), .ref q7, .ref q15, .ref q22, .ref q29, .int 0, .long 0])), (q7, .inl (c7, 8, .inr (.inr (.inr (.inr (va_up (va_up (va_up (va_up (va_up (va_up (va_up (va_up (fun _ => none) 0 (some q86)) 1 (some q86_1)) 2 (some q86_2)) 3 (some q86_3)) 4 (some q86_4)) 5 (some q86_5)) 6 (some q86_6)) 7 (some q86_7))))))), (q15, .inl (c15, 4, .inl (upd (upd (upd (fun _ => 0) 0 (-1)) 1 (-1)) 2 (-1)))), (q22, .inl (c22, 2, .inl (fun _ => 0))), (q29, .inl (c29, 2, .inr (.inr (.inr (.inr (fun _ => none)))))), (q86, .inr (1, [.int 0, .int 0, .int 1, .int 1, .int 0, .int 0, .int 0, .long 0, .int 0, .long 1000000000000, .int 0, .int 0, .int 0, .int 0])), (q86_1, .inr (1, [.int 1, .int 0, .int 1, .int 1, .int 0, .int 0, .int 0, .long 0, .int 0, .long 1000000000000, .int 0, .int 0, .int 0, .int 0])), (q86_2, .inr (1, [.int 2, .int 0, .int 1, .int 1, .int 0, .int 0, .int 0, .long 0, .int 0, .long 1000000000000, .int 0, .int 0, .int 0, .int 0])), (q86_3, .inr (1, [.int 3, .int 0, .int 1, .int 1, .int 0, .int 0, .int 0, .long 0, .int 0, .long 1000000000000, .int 0, .int 0, .int 0, .int 0])), (q86_4, .inr (1, [.int 4, .int 0, .int 1, .int 1, .int 0, .int 0, .int 0, .long 0, .int 0, .long 1000000000000, .int 0, .int 0, .int 0, .int 0])), (q86_5, .inr (1, [.int 5, .int 0, .int 1, .int 1, .int 0, .int 0, .int 0, .long 0, .int 0, .long 1000000000000, .int 0, .int 0, .int 0, .int 0])), (q86_6, .inr (1, [.int 6, .int 0, .int 1, .int 1, .int 0, .int 0, .int 0, .long 0, .int 0, .long 1000000000000, .int 0, .int 0, .int 0, .int 0])), (q86_7, .inr (1, [.int 7, .int 0, .int 1, .int 1, .int 0, .int 0, .int 0, .long 0, .int 0, .long 1000000000000, .int 0, .int 0, .int 0, .int 0]))] H := hP
  have hD : va_D A [(h0, .inr (2, [.int (if 1 < (if slice < 20 then slice else 20) then (if slice < 20 then slice else 20) else 1), .int (if 1 < (if ceiling < 31 then ceiling else 31) then (if ceiling < 31 then ceiling else 31) else 1), .ref q7, .ref q15, .ref q22, .ref q29, .int 0, .long 0])), (q7, .inl (c7, 8, .inr (.inr (.inr (.inr (va_up (va_up (va_up (va_up (va_up (va_up (va_up (va_up (fun _ => none) 0 (some q86)) 1 (some q86_1)) 2 (some q86_2)) 3 (some q86_3)) 4 (some q86_4)) 5 (some q86_5)) 6 (some q86_6)) 7 (some q86_7))))))), (q15, .inl (c15, 4, .inl (upd (upd (upd (fun _ => 0) 0 (-1)) 1 (-1)) 2 (-1)))), (q22, .inl (c22, 2, .inl (fun _ => 0))), (q29, .inl (c29, 2, .inr (.inr (.inr (.inr (fun _ => none)))))), (q86, .inr (1, [.int 0, .int 0, .int 1, .int 1, .int 0, .int 0, .int 0, .long 0, .int 0, .long 1000000000000, .int 0, .int 0, .int 0, .int 0])), (q86_1, .inr (1, [.int 1, .int 0, .int 1, .int 1, .int 0, .int 0, .int 0, .long 0, .int 0, .long 1000000000000, .int 0, .int 0, .int 0, .int 0])), (q86_2, .inr (1, [.int 2, .int 0, .int 1, .int 1, .int 0, .int 0, .int 0, .long 0, .int 0, .long 1000000000000, .int 0, .int 0, .int 0, .int 0])), (q86_3, .inr (1, [.int 3, .int 0, .int 1, .int 1, .int 0, .int 0, .int 0, .long 0, .int 0, .long 1000000000000, .int 0, .int 0, .int 0, .int 0])), (q86_4, .inr (1, [.int 4, .int 0, .int 1, .int 1, .int 0, .int 0, .int 0, .long 0, .int 0, .long 1000000000000, .int 0, .int 0, .int 0, .int 0])), (q86_5, .inr (1, [.int 5, .int 0, .int 1, .int 1, .int 0, .int 0, .int 0, .long 0, .int 0, .long 1000000000000, .int 0, .int 0, .int 0, .int 0])), (q86_6, .inr (1, [.int 6, .int 0, .int 1, .int 1, .int 0, .int 0, .int 0, .long 0, .int 0, .long 1000000000000, .int 0, .int 0, .int 0, .int 0])), (q86_7, .inr (1, [.int 7, .int 0, .int 1, .int 1, .int 0, .int 0, .int 0, .long 0, .int 0, .long 1000000000000, .int 0, .int 0, .int 0, .int 0]))] := hD
  refine lv_iinc (v := 3) (lv' := [(3, .int 3), (0, .ref h0), (1, .int slice), (2, .int ceiling)]) hx hb dX_init_115 hl (k := 0) rfl (by decide) (by decide) rfl (fun ls hl => ?_)
  refine lv_goto (tgt := 103) hx hb dX_init_118 (by decide) ?_
  refine lv_iload_n hx hb dX_init_103 rfl (lv_at hl 0 rfl) ?_
  refine lv_iconst (v := 4) hx hb dX_init_104 (by decide) ?_
  refine lv_icmp_ge (tgt := 121) hx hb dX_init_105 (by decide) (fun c9 => absurd c9 (by decide)) (fun _ => ?_)
  refine lv_aload_n hx hb dX_init_108 rfl (lv_at hl 1 rfl) ?_
  refine va_get (D := (dC, dI)) (ci := 2) (v := .ref q15) (C := R_X) (T := T_X) (N := 8) hx hb hts uw_X hown hK hP 0 rfl rfl 3 (by decide) (hts _ (List.mem_cons_of_mem _ wd_107)) (fun _ h9 => h9) rfl dX_init_109 ?_
  refine lv_iload_n hx hb dX_init_112 rfl (lv_at hl 0 rfl) ?_
  refine lv_iconst (v := (-1)) hx hb dX_init_113 (by decide) ?_
  refine va_iast hx hb hK hP hD hS 2 1 rfl rfl (kk_inl (by decide)) dX_init_114 (fun H locs hP hD hS => ?_)
  rw [kk_c3] at hP hD
  have hP : va_P (dC, dI) vwCl [(h0, .inr (2, [.int (if 1 < (if slice < 20 then slice else 20) then (if slice < 20 then slice else 20) else 1), .int (if 1 < (if ceiling < 31 then ceiling else 31) then (if ceiling < 31 then ceiling else 31) else 1), .ref q7, .ref q15, .ref q22, .ref q29, .int 0, .long 0])), (q7, .inl (c7, 8, .inr (.inr (.inr (.inr (va_up (va_up (va_up (va_up (va_up (va_up (va_up (va_up (fun _ => none) 0 (some q86)) 1 (some q86_1)) 2 (some q86_2)) 3 (some q86_3)) 4 (some q86_4)) 5 (some q86_5)) 6 (some q86_6)) 7 (some q86_7))))))), (q15, .inl (c15, 4, .inl (upd (upd (upd (upd (fun _ => 0) 0 (-1)) 1 (-1)) 2 (-1)) 3 (-1)))), (q22, .inl (c22, 2, .inl (fun _ => 0))), (q29, .inl (c29, 2, .inr (.inr (.inr (.inr (fun _ => none)))))), (q86, .inr (1, [.int 0, .int 0, .int 1, .int 1, .int 0, .int 0, .int 0, .long 0, .int 0, .long 1000000000000, .int 0, .int 0, .int 0, .int 0])), (q86_1, .inr (1, [.int 1, .int 0, .int 1, .int 1, .int 0, .int 0, .int 0, .long 0, .int 0, .long 1000000000000, .int 0, .int 0, .int 0, .int 0])), (q86_2, .inr (1, [.int 2, .int 0, .int 1, .int 1, .int 0, .int 0, .int 0, .long 0, .int 0, .long 1000000000000, .int 0, .int 0, .int 0, .int 0])), (q86_3, .inr (1, [.int 3, .int 0, .int 1, .int 1, .int 0, .int 0, .int 0, .long 0, .int 0, .long 1000000000000, .int 0, .int 0, .int 0, .int 0])), (q86_4, .inr (1, [.int 4, .int 0, .int 1, .int 1, .int 0, .int 0, .int 0, .long 0, .int 0, .long 1000000000000, .int 0, .int 0, .int 0, .int 0])), (q86_5, .inr (1, [.int 5, .int 0, .int 1, .int 1, .int 0, .int 0, .int 0, .long 0, .int 0, .long 1000000000000, .int 0, .int 0, .int 0, .int 0])), (q86_6, .inr (1, [.int 6, .int 0, .int 1, .int 1, .int 0, .int 0, .int 0, .long 0, .int 0, .long 1000000000000, .int 0, .int 0, .int 0, .int 0])), (q86_7, .inr (1, [.int 7, .int 0, .int 1, .int 1, .int 0, .int 0, .int 0, .long 0, .int 0, .long 1000000000000, .int 0, .int 0, .int 0, .int 0]))] H := hP
  have hD : va_D A [(h0, .inr (2, [.int (if 1 < (if slice < 20 then slice else 20) then (if slice < 20 then slice else 20) else 1), .int (if 1 < (if ceiling < 31 then ceiling else 31) then (if ceiling < 31 then ceiling else 31) else 1), .ref q7, .ref q15, .ref q22, .ref q29, .int 0, .long 0])), (q7, .inl (c7, 8, .inr (.inr (.inr (.inr (va_up (va_up (va_up (va_up (va_up (va_up (va_up (va_up (fun _ => none) 0 (some q86)) 1 (some q86_1)) 2 (some q86_2)) 3 (some q86_3)) 4 (some q86_4)) 5 (some q86_5)) 6 (some q86_6)) 7 (some q86_7))))))), (q15, .inl (c15, 4, .inl (upd (upd (upd (upd (fun _ => 0) 0 (-1)) 1 (-1)) 2 (-1)) 3 (-1)))), (q22, .inl (c22, 2, .inl (fun _ => 0))), (q29, .inl (c29, 2, .inr (.inr (.inr (.inr (fun _ => none)))))), (q86, .inr (1, [.int 0, .int 0, .int 1, .int 1, .int 0, .int 0, .int 0, .long 0, .int 0, .long 1000000000000, .int 0, .int 0, .int 0, .int 0])), (q86_1, .inr (1, [.int 1, .int 0, .int 1, .int 1, .int 0, .int 0, .int 0, .long 0, .int 0, .long 1000000000000, .int 0, .int 0, .int 0, .int 0])), (q86_2, .inr (1, [.int 2, .int 0, .int 1, .int 1, .int 0, .int 0, .int 0, .long 0, .int 0, .long 1000000000000, .int 0, .int 0, .int 0, .int 0])), (q86_3, .inr (1, [.int 3, .int 0, .int 1, .int 1, .int 0, .int 0, .int 0, .long 0, .int 0, .long 1000000000000, .int 0, .int 0, .int 0, .int 0])), (q86_4, .inr (1, [.int 4, .int 0, .int 1, .int 1, .int 0, .int 0, .int 0, .long 0, .int 0, .long 1000000000000, .int 0, .int 0, .int 0, .int 0])), (q86_5, .inr (1, [.int 5, .int 0, .int 1, .int 1, .int 0, .int 0, .int 0, .long 0, .int 0, .long 1000000000000, .int 0, .int 0, .int 0, .int 0])), (q86_6, .inr (1, [.int 6, .int 0, .int 1, .int 1, .int 0, .int 0, .int 0, .long 0, .int 0, .long 1000000000000, .int 0, .int 0, .int 0, .int 0])), (q86_7, .inr (1, [.int 7, .int 0, .int 1, .int 1, .int 0, .int 0, .int 0, .long 0, .int 0, .long 1000000000000, .int 0, .int 0, .int 0, .int 0]))] := hD
  refine lv_iinc (v := 4) (lv' := [(3, .int 4), (0, .ref h0), (1, .int slice), (2, .int ceiling)]) hx hb dX_init_115 hl (k := 0) rfl (by decide) (by decide) rfl (fun ls hl => ?_)
  refine lv_goto (tgt := 103) hx hb dX_init_118 (by decide) ?_
  refine lv_iload_n hx hb dX_init_103 rfl (lv_at hl 0 rfl) ?_
  refine lv_iconst (v := 4) hx hb dX_init_104 (by decide) ?_
  refine lv_icmp_ge (tgt := 121) hx hb dX_init_105 (by decide) (fun _ => ?_) (fun c9 => absurd (by decide) c9)
  refine lv_iconst (v := 0) hx hb dX_init_121 (by decide) ?_
  refine lv_istore_n (lv' := [(3, .int 0), (0, .ref h0), (1, .int slice), (2, .int ceiling)]) hx hb dX_init_122 rfl hl (by decide) rfl (fun ls hl => ?_)
  refine lv_iload_n hx hb dX_init_123 rfl (lv_at hl 0 rfl) ?_
  refine lv_iconst (v := 2) hx hb dX_init_124 (by decide) ?_
  refine lv_icmp_ge (tgt := 147) hx hb dX_init_125 (by decide) (fun c9 => absurd c9 (by decide)) (fun _ => ?_)
  refine lv_aload_n hx hb dX_init_128 rfl (lv_at hl 1 rfl) ?_
  refine va_get (D := (dC, dI)) (ci := 2) (v := .ref q29) (C := R_X) (T := T_X) (N := 8) hx hb hts uw_X hown hK hP 0 rfl rfl 5 (by decide) (hts _ (List.mem_cons_of_mem _ wd_109)) (fun _ h9 => h9) rfl dX_init_129 ?_
  refine lv_iload_n hx hb dX_init_132 rfl (lv_at hl 0 rfl) ?_
  refine va_new (ci := 0) (fs := [.null, .null, .int 0]) (C := R_Q) (T := T_Q) (N := 3) hx hb hts uw_Q ty_Q ty_Q_ok hown (hts _ (List.mem_cons_of_mem _ wd_16)) (hts _ (List.mem_cons_of_mem _ wd_88)) (hts _ (List.mem_cons_of_mem _ wd_4)) hK hP hD hS hA rfl (fun j hj => by rcases (show j = 0 ∨ j = 1 ∨ j = 2 by omega) with rfl | rfl | rfl <;> rfl) (Nat.le_of_ble_eq_true rfl) (Nat.le_of_ble_eq_true rfl) dX_init_133 (fun q133 H hP hD hS => ?_)
  have hP : va_P (dC, dI) vwCl [(h0, .inr (2, [.int (if 1 < (if slice < 20 then slice else 20) then (if slice < 20 then slice else 20) else 1), .int (if 1 < (if ceiling < 31 then ceiling else 31) then (if ceiling < 31 then ceiling else 31) else 1), .ref q7, .ref q15, .ref q22, .ref q29, .int 0, .long 0])), (q7, .inl (c7, 8, .inr (.inr (.inr (.inr (va_up (va_up (va_up (va_up (va_up (va_up (va_up (va_up (fun _ => none) 0 (some q86)) 1 (some q86_1)) 2 (some q86_2)) 3 (some q86_3)) 4 (some q86_4)) 5 (some q86_5)) 6 (some q86_6)) 7 (some q86_7))))))), (q15, .inl (c15, 4, .inl (upd (upd (upd (upd (fun _ => 0) 0 (-1)) 1 (-1)) 2 (-1)) 3 (-1)))), (q22, .inl (c22, 2, .inl (fun _ => 0))), (q29, .inl (c29, 2, .inr (.inr (.inr (.inr (fun _ => none)))))), (q86, .inr (1, [.int 0, .int 0, .int 1, .int 1, .int 0, .int 0, .int 0, .long 0, .int 0, .long 1000000000000, .int 0, .int 0, .int 0, .int 0])), (q86_1, .inr (1, [.int 1, .int 0, .int 1, .int 1, .int 0, .int 0, .int 0, .long 0, .int 0, .long 1000000000000, .int 0, .int 0, .int 0, .int 0])), (q86_2, .inr (1, [.int 2, .int 0, .int 1, .int 1, .int 0, .int 0, .int 0, .long 0, .int 0, .long 1000000000000, .int 0, .int 0, .int 0, .int 0])), (q86_3, .inr (1, [.int 3, .int 0, .int 1, .int 1, .int 0, .int 0, .int 0, .long 0, .int 0, .long 1000000000000, .int 0, .int 0, .int 0, .int 0])), (q86_4, .inr (1, [.int 4, .int 0, .int 1, .int 1, .int 0, .int 0, .int 0, .long 0, .int 0, .long 1000000000000, .int 0, .int 0, .int 0, .int 0])), (q86_5, .inr (1, [.int 5, .int 0, .int 1, .int 1, .int 0, .int 0, .int 0, .long 0, .int 0, .long 1000000000000, .int 0, .int 0, .int 0, .int 0])), (q86_6, .inr (1, [.int 6, .int 0, .int 1, .int 1, .int 0, .int 0, .int 0, .long 0, .int 0, .long 1000000000000, .int 0, .int 0, .int 0, .int 0])), (q86_7, .inr (1, [.int 7, .int 0, .int 1, .int 1, .int 0, .int 0, .int 0, .long 0, .int 0, .long 1000000000000, .int 0, .int 0, .int 0, .int 0])), (q133, .inr (0, [.null, .null, .int 0]))] H := hP
  have hD : va_D A [(h0, .inr (2, [.int (if 1 < (if slice < 20 then slice else 20) then (if slice < 20 then slice else 20) else 1), .int (if 1 < (if ceiling < 31 then ceiling else 31) then (if ceiling < 31 then ceiling else 31) else 1), .ref q7, .ref q15, .ref q22, .ref q29, .int 0, .long 0])), (q7, .inl (c7, 8, .inr (.inr (.inr (.inr (va_up (va_up (va_up (va_up (va_up (va_up (va_up (va_up (fun _ => none) 0 (some q86)) 1 (some q86_1)) 2 (some q86_2)) 3 (some q86_3)) 4 (some q86_4)) 5 (some q86_5)) 6 (some q86_6)) 7 (some q86_7))))))), (q15, .inl (c15, 4, .inl (upd (upd (upd (upd (fun _ => 0) 0 (-1)) 1 (-1)) 2 (-1)) 3 (-1)))), (q22, .inl (c22, 2, .inl (fun _ => 0))), (q29, .inl (c29, 2, .inr (.inr (.inr (.inr (fun _ => none)))))), (q86, .inr (1, [.int 0, .int 0, .int 1, .int 1, .int 0, .int 0, .int 0, .long 0, .int 0, .long 1000000000000, .int 0, .int 0, .int 0, .int 0])), (q86_1, .inr (1, [.int 1, .int 0, .int 1, .int 1, .int 0, .int 0, .int 0, .long 0, .int 0, .long 1000000000000, .int 0, .int 0, .int 0, .int 0])), (q86_2, .inr (1, [.int 2, .int 0, .int 1, .int 1, .int 0, .int 0, .int 0, .long 0, .int 0, .long 1000000000000, .int 0, .int 0, .int 0, .int 0])), (q86_3, .inr (1, [.int 3, .int 0, .int 1, .int 1, .int 0, .int 0, .int 0, .long 0, .int 0, .long 1000000000000, .int 0, .int 0, .int 0, .int 0])), (q86_4, .inr (1, [.int 4, .int 0, .int 1, .int 1, .int 0, .int 0, .int 0, .long 0, .int 0, .long 1000000000000, .int 0, .int 0, .int 0, .int 0])), (q86_5, .inr (1, [.int 5, .int 0, .int 1, .int 1, .int 0, .int 0, .int 0, .long 0, .int 0, .long 1000000000000, .int 0, .int 0, .int 0, .int 0])), (q86_6, .inr (1, [.int 6, .int 0, .int 1, .int 1, .int 0, .int 0, .int 0, .long 0, .int 0, .long 1000000000000, .int 0, .int 0, .int 0, .int 0])), (q86_7, .inr (1, [.int 7, .int 0, .int 1, .int 1, .int 0, .int 0, .int 0, .long 0, .int 0, .long 1000000000000, .int 0, .int 0, .int 0, .int 0])), (q133, .inr (0, [.null, .null, .int 0]))] := hD
  refine W.widen (k := 13) (n := 131) (by omega) (by omega) ?_
  refine lv_dup hx hb dX_init_136 rfl ?_
  have hPc := hP.sub (ws' := [(q133, .inr (0, [.null, .null, .int 0]))]) [13] rfl
  have hKc := hK.sub (tys' := []) [] rfl
  have hDc := hD.sub (ws' := [(q133, .inr (0, [.null, .null, .int 0]))]) [13] (by decide) rfl
  have hFc := va_free (wc := [(q133, .inr (0, [.null, .null, .int 0]))]) hD hS hA [13] rfl
  refine va_callv (va_runIN (As := []) (rest := [.ref q133, .int 0, .ref q29]) ⟨hx, hb, hml, hown, hts⟩ (xc_Q_init l dC dI q133 H.size) ⟨va_cnB 0 hts (kn_I wd_91) rfl rfl rfl hNw (hts _ (List.mem_cons_of_mem _ wd_4)) (by decide +kernel) ⟨Nat.le_of_ble_eq_true rfl, Nat.le_of_ble_eq_true rfl⟩, rfl, hts _ (List.mem_cons_of_mem _ wd_90)⟩ ⟨kk_blind2, fun U hU hW => ⟨rfl, by rw [hU], by rw [hU]; exact hPc, va_K.moved hW.alike hKc⟩⟩ rfl rfl hl.1 rfl (lv_room (Nat.le_of_ble_eq_true rfl)) dX_init_137 ⟨Nat.le_of_ble_eq_true rfl, Nat.le_of_ble_eq_true rfl⟩) hS (fun q _ h => hFc q h) hFc (fun u t H1 locs ht hvm hw hB hz1 hk1 hS => ?_)
  obtain ⟨ra8, rb8, ca8, cb8⟩ := u
  obtain ⟨hP1, hK1, hD1⟩ := hB
  rw [ht] at hP1
  have hK1 := va_K.moved hvm.symm hK1
  obtain ⟨hP, hD⟩ := va_join (wr := [(h0, .inr (2, [.int (if 1 < (if slice < 20 then slice else 20) then (if slice < 20 then slice else 20) else 1), .int (if 1 < (if ceiling < 31 then ceiling else 31) then (if ceiling < 31 then ceiling else 31) else 1), .ref q7, .ref q15, .ref q22, .ref q29, .int 0, .long 0])), (q7, .inl (c7, 8, .inr (.inr (.inr (.inr (va_up (va_up (va_up (va_up (va_up (va_up (va_up (va_up (fun _ => none) 0 (some q86)) 1 (some q86_1)) 2 (some q86_2)) 3 (some q86_3)) 4 (some q86_4)) 5 (some q86_5)) 6 (some q86_6)) 7 (some q86_7))))))), (q15, .inl (c15, 4, .inl (upd (upd (upd (upd (fun _ => 0) 0 (-1)) 1 (-1)) 2 (-1)) 3 (-1)))), (q22, .inl (c22, 2, .inl (fun _ => 0))), (q29, .inl (c29, 2, .inr (.inr (.inr (.inr (fun _ => none)))))), (q86, .inr (1, [.int 0, .int 0, .int 1, .int 1, .int 0, .int 0, .int 0, .long 0, .int 0, .long 1000000000000, .int 0, .int 0, .int 0, .int 0])), (q86_1, .inr (1, [.int 1, .int 0, .int 1, .int 1, .int 0, .int 0, .int 0, .long 0, .int 0, .long 1000000000000, .int 0, .int 0, .int 0, .int 0])), (q86_2, .inr (1, [.int 2, .int 0, .int 1, .int 1, .int 0, .int 0, .int 0, .long 0, .int 0, .long 1000000000000, .int 0, .int 0, .int 0, .int 0])), (q86_3, .inr (1, [.int 3, .int 0, .int 1, .int 1, .int 0, .int 0, .int 0, .long 0, .int 0, .long 1000000000000, .int 0, .int 0, .int 0, .int 0])), (q86_4, .inr (1, [.int 4, .int 0, .int 1, .int 1, .int 0, .int 0, .int 0, .long 0, .int 0, .long 1000000000000, .int 0, .int 0, .int 0, .int 0])), (q86_5, .inr (1, [.int 5, .int 0, .int 1, .int 1, .int 0, .int 0, .int 0, .long 0, .int 0, .long 1000000000000, .int 0, .int 0, .int 0, .int 0])), (q86_6, .inr (1, [.int 6, .int 0, .int 1, .int 1, .int 0, .int 0, .int 0, .long 0, .int 0, .long 1000000000000, .int 0, .int 0, .int 0, .int 0])), (q86_7, .inr (1, [.int 7, .int 0, .int 1, .int 1, .int 0, .int 0, .int 0, .long 0, .int 0, .long 1000000000000, .int 0, .int 0, .int 0, .int 0]))]) (w1 := [(q133, .inr (0, [.ref ra8, .ref rb8, .int 0])), (ra8, .inl (ca8, 4, .inl (fun _ => 0))), (rb8, .inl (cb8, 4, .inl (fun _ => 0)))]) hP hD [13] [0, 1, 2, 3, 4, 5, 6, 7, 8, 9, 10, 11, 12] rfl rfl (by decide) (by decide) hk1 hFc hP1 hD1
  have hK := (hK.sub (tys' := [(c7, .object R_T), (c15, .int), (c22, .int), (c29, .object R_Q)]) [0, 1, 2, 3] rfl).app hK1
  generalize H1 = H at hP hS ⊢
  have hP : va_P (dC, dI) vwCl [(h0, .inr (2, [.int (if 1 < (if slice < 20 then slice else 20) then (if slice < 20 then slice else 20) else 1), .int (if 1 < (if ceiling < 31 then ceiling else 31) then (if ceiling < 31 then ceiling else 31) else 1), .ref q7, .ref q15, .ref q22, .ref q29, .int 0, .long 0])), (q7, .inl (c7, 8, .inr (.inr (.inr (.inr (va_up (va_up (va_up (va_up (va_up (va_up (va_up (va_up (fun _ => none) 0 (some q86)) 1 (some q86_1)) 2 (some q86_2)) 3 (some q86_3)) 4 (some q86_4)) 5 (some q86_5)) 6 (some q86_6)) 7 (some q86_7))))))), (q15, .inl (c15, 4, .inl (upd (upd (upd (upd (fun _ => 0) 0 (-1)) 1 (-1)) 2 (-1)) 3 (-1)))), (q22, .inl (c22, 2, .inl (fun _ => 0))), (q29, .inl (c29, 2, .inr (.inr (.inr (.inr (fun _ => none)))))), (q86, .inr (1, [.int 0, .int 0, .int 1, .int 1, .int 0, .int 0, .int 0, .long 0, .int 0, .long 1000000000000, .int 0, .int 0, .int 0, .int 0])), (q86_1, .inr (1, [.int 1, .int 0, .int 1, .int 1, .int 0, .int 0, .int 0, .long 0, .int 0, .long 1000000000000, .int 0, .int 0, .int 0, .int 0])), (q86_2, .inr (1, [.int 2, .int 0, .int 1, .int 1, .int 0, .int 0, .int 0, .long 0, .int 0, .long 1000000000000, .int 0, .int 0, .int 0, .int 0])), (q86_3, .inr (1, [.int 3, .int 0, .int 1, .int 1, .int 0, .int 0, .int 0, .long 0, .int 0, .long 1000000000000, .int 0, .int 0, .int 0, .int 0])), (q86_4, .inr (1, [.int 4, .int 0, .int 1, .int 1, .int 0, .int 0, .int 0, .long 0, .int 0, .long 1000000000000, .int 0, .int 0, .int 0, .int 0])), (q86_5, .inr (1, [.int 5, .int 0, .int 1, .int 1, .int 0, .int 0, .int 0, .long 0, .int 0, .long 1000000000000, .int 0, .int 0, .int 0, .int 0])), (q86_6, .inr (1, [.int 6, .int 0, .int 1, .int 1, .int 0, .int 0, .int 0, .long 0, .int 0, .long 1000000000000, .int 0, .int 0, .int 0, .int 0])), (q86_7, .inr (1, [.int 7, .int 0, .int 1, .int 1, .int 0, .int 0, .int 0, .long 0, .int 0, .long 1000000000000, .int 0, .int 0, .int 0, .int 0])), (q133, .inr (0, [.ref ra8, .ref rb8, .int 0])), (ra8, .inl (ca8, 4, .inl (fun _ => 0))), (rb8, .inl (cb8, 4, .inl (fun _ => 0)))] H := hP
  have hD : va_D A [(h0, .inr (2, [.int (if 1 < (if slice < 20 then slice else 20) then (if slice < 20 then slice else 20) else 1), .int (if 1 < (if ceiling < 31 then ceiling else 31) then (if ceiling < 31 then ceiling else 31) else 1), .ref q7, .ref q15, .ref q22, .ref q29, .int 0, .long 0])), (q7, .inl (c7, 8, .inr (.inr (.inr (.inr (va_up (va_up (va_up (va_up (va_up (va_up (va_up (va_up (fun _ => none) 0 (some q86)) 1 (some q86_1)) 2 (some q86_2)) 3 (some q86_3)) 4 (some q86_4)) 5 (some q86_5)) 6 (some q86_6)) 7 (some q86_7))))))), (q15, .inl (c15, 4, .inl (upd (upd (upd (upd (fun _ => 0) 0 (-1)) 1 (-1)) 2 (-1)) 3 (-1)))), (q22, .inl (c22, 2, .inl (fun _ => 0))), (q29, .inl (c29, 2, .inr (.inr (.inr (.inr (fun _ => none)))))), (q86, .inr (1, [.int 0, .int 0, .int 1, .int 1, .int 0, .int 0, .int 0, .long 0, .int 0, .long 1000000000000, .int 0, .int 0, .int 0, .int 0])), (q86_1, .inr (1, [.int 1, .int 0, .int 1, .int 1, .int 0, .int 0, .int 0, .long 0, .int 0, .long 1000000000000, .int 0, .int 0, .int 0, .int 0])), (q86_2, .inr (1, [.int 2, .int 0, .int 1, .int 1, .int 0, .int 0, .int 0, .long 0, .int 0, .long 1000000000000, .int 0, .int 0, .int 0, .int 0])), (q86_3, .inr (1, [.int 3, .int 0, .int 1, .int 1, .int 0, .int 0, .int 0, .long 0, .int 0, .long 1000000000000, .int 0, .int 0, .int 0, .int 0])), (q86_4, .inr (1, [.int 4, .int 0, .int 1, .int 1, .int 0, .int 0, .int 0, .long 0, .int 0, .long 1000000000000, .int 0, .int 0, .int 0, .int 0])), (q86_5, .inr (1, [.int 5, .int 0, .int 1, .int 1, .int 0, .int 0, .int 0, .long 0, .int 0, .long 1000000000000, .int 0, .int 0, .int 0, .int 0])), (q86_6, .inr (1, [.int 6, .int 0, .int 1, .int 1, .int 0, .int 0, .int 0, .long 0, .int 0, .long 1000000000000, .int 0, .int 0, .int 0, .int 0])), (q86_7, .inr (1, [.int 7, .int 0, .int 1, .int 1, .int 0, .int 0, .int 0, .long 0, .int 0, .long 1000000000000, .int 0, .int 0, .int 0, .int 0])), (q133, .inr (0, [.ref ra8, .ref rb8, .int 0])), (ra8, .inl (ca8, 4, .inl (fun _ => 0))), (rb8, .inl (cb8, 4, .inl (fun _ => 0)))] := hD
  have hK : va_K (dC, dI) vwCl [(c7, .object R_T), (c15, .int), (c22, .int), (c29, .object R_Q), (ca8, .int), (cb8, .int)] s := hK
  refine W.widen (k := 15) (n := 139) (by omega) (by omega) ?_
  refine va_astq hx hb hK hP hD hS 4 3 13 0 rfl rfl rfl rfl (kk_inl (by decide)) dX_init_140 (fun H locs hP hD hS => ?_)
  rw [kk_c0] at hP hD
  have hP : va_P (dC, dI) vwCl [(h0, .inr (2, [.int (if 1 < (if slice < 20 then slice else 20) then (if slice < 20 then slice else 20) else 1), .int (if 1 < (if ceiling < 31 then ceiling else 31) then (if ceiling < 31 then ceiling else 31) else 1), .ref q7, .ref q15, .ref q22, .ref q29, .int 0, .long 0])), (q7, .inl (c7, 8, .inr (.inr (.inr (.inr (va_up (va_up (va_up (va_up (va_up (va_up (va_up (va_up (fun _ => none) 0 (some q86)) 1 (some q86_1)) 2 (some q86_2)) 3 (some q86_3)) 4 (some q86_4)) 5 (some q86_5)) 6 (some q86_6)) 7 (some q86_7))))))), (q15, .inl (c15, 4, .inl (upd (upd (upd (upd (fun _ => 0) 0 (-1)) 1 (-1)) 2 (-1)) 3 (-1)))), (q22, .inl (c22, 2, .inl (fun _ => 0))), (q29, .inl (c29, 2, .inr (.inr (.inr (.inr (va_up (fun _ => none) 0 (some q133))))))), (q86, .inr (1, [.int 0, .int 0, .int 1, .int 1, .int 0, .int 0, .int 0, .long 0, .int 0, .long 1000000000000, .int 0, .int 0, .int 0, .int 0])), (q86_1, .inr (1, [.int 1, .int 0, .int 1, .int 1, .int 0, .int 0, .int 0, .long 0, .int 0, .long 1000000000000, .int 0, .int 0, .int 0, .int 0])), (q86_2, .inr (1, [.int 2, .int 0, .int 1, .int 1, .int 0, .int 0, .int 0, .long 0, .int 0, .long 1000000000000, .int 0, .int 0, .int 0, .int 0])), (q86_3, .inr (1, [.int 3, .int 0, .int 1, .int 1, .int 0, .int 0, .int 0, .long 0, .int 0, .long 1000000000000, .int 0, .int 0, .int 0, .int 0])), (q86_4, .inr (1, [.int 4, .int 0, .int 1, .int 1, .int 0, .int 0, .int 0, .long 0, .int 0, .long 1000000000000, .int 0, .int 0, .int 0, .int 0])), (q86_5, .inr (1, [.int 5, .int 0, .int 1, .int 1, .int 0, .int 0, .int 0, .long 0, .int 0, .long 1000000000000, .int 0, .int 0, .int 0, .int 0])), (q86_6, .inr (1, [.int 6, .int 0, .int 1, .int 1, .int 0, .int 0, .int 0, .long 0, .int 0, .long 1000000000000, .int 0, .int 0, .int 0, .int 0])), (q86_7, .inr (1, [.int 7, .int 0, .int 1, .int 1, .int 0, .int 0, .int 0, .long 0, .int 0, .long 1000000000000, .int 0, .int 0, .int 0, .int 0])), (q133, .inr (0, [.ref ra8, .ref rb8, .int 0])), (ra8, .inl (ca8, 4, .inl (fun _ => 0))), (rb8, .inl (cb8, 4, .inl (fun _ => 0)))] H := hP
  have hD : va_D A [(h0, .inr (2, [.int (if 1 < (if slice < 20 then slice else 20) then (if slice < 20 then slice else 20) else 1), .int (if 1 < (if ceiling < 31 then ceiling else 31) then (if ceiling < 31 then ceiling else 31) else 1), .ref q7, .ref q15, .ref q22, .ref q29, .int 0, .long 0])), (q7, .inl (c7, 8, .inr (.inr (.inr (.inr (va_up (va_up (va_up (va_up (va_up (va_up (va_up (va_up (fun _ => none) 0 (some q86)) 1 (some q86_1)) 2 (some q86_2)) 3 (some q86_3)) 4 (some q86_4)) 5 (some q86_5)) 6 (some q86_6)) 7 (some q86_7))))))), (q15, .inl (c15, 4, .inl (upd (upd (upd (upd (fun _ => 0) 0 (-1)) 1 (-1)) 2 (-1)) 3 (-1)))), (q22, .inl (c22, 2, .inl (fun _ => 0))), (q29, .inl (c29, 2, .inr (.inr (.inr (.inr (va_up (fun _ => none) 0 (some q133))))))), (q86, .inr (1, [.int 0, .int 0, .int 1, .int 1, .int 0, .int 0, .int 0, .long 0, .int 0, .long 1000000000000, .int 0, .int 0, .int 0, .int 0])), (q86_1, .inr (1, [.int 1, .int 0, .int 1, .int 1, .int 0, .int 0, .int 0, .long 0, .int 0, .long 1000000000000, .int 0, .int 0, .int 0, .int 0])), (q86_2, .inr (1, [.int 2, .int 0, .int 1, .int 1, .int 0, .int 0, .int 0, .long 0, .int 0, .long 1000000000000, .int 0, .int 0, .int 0, .int 0])), (q86_3, .inr (1, [.int 3, .int 0, .int 1, .int 1, .int 0, .int 0, .int 0, .long 0, .int 0, .long 1000000000000, .int 0, .int 0, .int 0, .int 0])), (q86_4, .inr (1, [.int 4, .int 0, .int 1, .int 1, .int 0, .int 0, .int 0, .long 0, .int 0, .long 1000000000000, .int 0, .int 0, .int 0, .int 0])), (q86_5, .inr (1, [.int 5, .int 0, .int 1, .int 1, .int 0, .int 0, .int 0, .long 0, .int 0, .long 1000000000000, .int 0, .int 0, .int 0, .int 0])), (q86_6, .inr (1, [.int 6, .int 0, .int 1, .int 1, .int 0, .int 0, .int 0, .long 0, .int 0, .long 1000000000000, .int 0, .int 0, .int 0, .int 0])), (q86_7, .inr (1, [.int 7, .int 0, .int 1, .int 1, .int 0, .int 0, .int 0, .long 0, .int 0, .long 1000000000000, .int 0, .int 0, .int 0, .int 0])), (q133, .inr (0, [.ref ra8, .ref rb8, .int 0])), (ra8, .inl (ca8, 4, .inl (fun _ => 0))), (rb8, .inl (cb8, 4, .inl (fun _ => 0)))] := hD
  refine lv_iinc (v := 1) (lv' := [(3, .int 1), (0, .ref h0), (1, .int slice), (2, .int ceiling)]) hx hb dX_init_141 hl (k := 0) rfl (by decide) (by decide) rfl (fun ls hl => ?_)
  refine lv_goto (tgt := 123) hx hb dX_init_144 (by decide) ?_
  refine lv_iload_n hx hb dX_init_123 rfl (lv_at hl 0 rfl) ?_
  refine lv_iconst (v := 2) hx hb dX_init_124 (by decide) ?_
  refine lv_icmp_ge (tgt := 147) hx hb dX_init_125 (by decide) (fun c9 => absurd c9 (by decide)) (fun _ => ?_)
  refine lv_aload_n hx hb dX_init_128 rfl (lv_at hl 1 rfl) ?_
  refine va_get (D := (dC, dI)) (ci := 2) (v := .ref q29) (C := R_X) (T := T_X) (N := 8) hx hb hts uw_X hown hK hP 0 rfl rfl 5 (by decide) (hts _ (List.mem_cons_of_mem _ wd_109)) (fun _ h9 => h9) rfl dX_init_129 ?_
  refine lv_iload_n hx hb dX_init_132 rfl (lv_at hl 0 rfl) ?_
  refine va_new (ci := 0) (fs := [.null, .null, .int 0]) (C := R_Q) (T := T_Q) (N := 3) hx hb hts uw_Q ty_Q ty_Q_ok hown (hts _ (List.mem_cons_of_mem _ wd_16)) (hts _ (List.mem_cons_of_mem _ wd_88)) (hts _ (List.mem_cons_of_mem _ wd_4)) hK hP hD hS hA rfl (fun j hj => by rcases (show j = 0 ∨ j = 1 ∨ j = 2 by omega) with rfl | rfl | rfl <;> rfl) (Nat.le_of_ble_eq_true rfl) (Nat.le_of_ble_eq_true rfl) dX_init_133 (fun q133_9 H hP hD hS => ?_)
  have hP : va_P (dC, dI) vwCl [(h0, .inr (2, [.int (if 1 < (if slice < 20 then slice else 20) then (if slice < 20 then slice else 20) else 1), .int (if 1 < (if ceiling < 31 then ceiling else 31) then (if ceiling < 31 then ceiling else 31) else 1), .ref q7, .ref q15, .ref q22, .ref q29, .int 0, .long 0])), (q7, .inl (c7, 8, .inr (.inr (.inr (.inr (va_up (va_up (va_up (va_up (va_up (va_up (va_up (va_up (fun _ => none) 0 (some q86)) 1 (some q86_1)) 2 (some q86_2)) 3 (some q86_3)) 4 (some q86_4)) 5 (some q86_5)) 6 (some q86_6)) 7 (some q86_7))))))), (q15, .inl (c15, 4, .inl (upd (upd (upd (upd (fun _ => 0) 0 (-1)) 1 (-1)) 2 (-1)) 3 (-1)))), (q22, .inl (c22, 2, .inl (fun _ => 0))), (q29, .inl (c29, 2, .inr (.inr (.inr (.inr (va_up (fun _ => none) 0 (some q133))))))), (q86, .inr (1, [.int 0, .int 0, .int 1, .int 1, .int 0, .int 0, .int 0, .long 0, .int 0, .long 1000000000000, .int 0, .int 0, .int 0, .int 0])), (q86_1, .inr (1, [.int 1, .int 0, .int 1, .int 1, .int 0, .int 0, .int 0, .long 0, .int 0, .long 1000000000000, .int 0, .int 0, .int 0, .int 0])), (q86_2, .inr (1, [.int 2, .int 0, .int 1, .int 1, .int 0, .int 0, .int 0, .long 0, .int 0, .long 1000000000000, .int 0, .int 0, .int 0, .int 0])), (q86_3, .inr (1, [.int 3, .int 0, .int 1, .int 1, .int 0, .int 0, .int 0, .long 0, .int 0, .long 1000000000000, .int 0, .int 0, .int 0, .int 0])), (q86_4, .inr (1, [.int 4, .int 0, .int 1, .int 1, .int 0, .int 0, .int 0, .long 0, .int 0, .long 1000000000000, .int 0, .int 0, .int 0, .int 0])), (q86_5, .inr (1, [.int 5, .int 0, .int 1, .int 1, .int 0, .int 0, .int 0, .long 0, .int 0, .long 1000000000000, .int 0, .int 0, .int 0, .int 0])), (q86_6, .inr (1, [.int 6, .int 0, .int 1, .int 1, .int 0, .int 0, .int 0, .long 0, .int 0, .long 1000000000000, .int 0, .int 0, .int 0, .int 0])), (q86_7, .inr (1, [.int 7, .int 0, .int 1, .int 1, .int 0, .int 0, .int 0, .long 0, .int 0, .long 1000000000000, .int 0, .int 0, .int 0, .int 0])), (q133, .inr (0, [.ref ra8, .ref rb8, .int 0])), (ra8, .inl (ca8, 4, .inl (fun _ => 0))), (rb8, .inl (cb8, 4, .inl (fun _ => 0))), (q133_9, .inr (0, [.null, .null, .int 0]))] H := hP
  have hD : va_D A [(h0, .inr (2, [.int (if 1 < (if slice < 20 then slice else 20) then (if slice < 20 then slice else 20) else 1), .int (if 1 < (if ceiling < 31 then ceiling else 31) then (if ceiling < 31 then ceiling else 31) else 1), .ref q7, .ref q15, .ref q22, .ref q29, .int 0, .long 0])), (q7, .inl (c7, 8, .inr (.inr (.inr (.inr (va_up (va_up (va_up (va_up (va_up (va_up (va_up (va_up (fun _ => none) 0 (some q86)) 1 (some q86_1)) 2 (some q86_2)) 3 (some q86_3)) 4 (some q86_4)) 5 (some q86_5)) 6 (some q86_6)) 7 (some q86_7))))))), (q15, .inl (c15, 4, .inl (upd (upd (upd (upd (fun _ => 0) 0 (-1)) 1 (-1)) 2 (-1)) 3 (-1)))), (q22, .inl (c22, 2, .inl (fun _ => 0))), (q29, .inl (c29, 2, .inr (.inr (.inr (.inr (va_up (fun _ => none) 0 (some q133))))))), (q86, .inr (1, [.int 0, .int 0, .int 1, .int 1, .int 0, .int 0, .int 0, .long 0, .int 0, .long 1000000000000, .int 0, .int 0, .int 0, .int 0])), (q86_1, .inr (1, [.int 1, .int 0, .int 1, .int 1, .int 0, .int 0, .int 0, .long 0, .int 0, .long 1000000000000, .int 0, .int 0, .int 0, .int 0])), (q86_2, .inr (1, [.int 2, .int 0, .int 1, .int 1, .int 0, .int 0, .int 0, .long 0, .int 0, .long 1000000000000, .int 0, .int 0, .int 0, .int 0])), (q86_3, .inr (1, [.int 3, .int 0, .int 1, .int 1, .int 0, .int 0, .int 0, .long 0, .int 0, .long 1000000000000, .int 0, .int 0, .int 0, .int 0])), (q86_4, .inr (1, [.int 4, .int 0, .int 1, .int 1, .int 0, .int 0, .int 0, .long 0, .int 0, .long 1000000000000, .int 0, .int 0, .int 0, .int 0])), (q86_5, .inr (1, [.int 5, .int 0, .int 1, .int 1, .int 0, .int 0, .int 0, .long 0, .int 0, .long 1000000000000, .int 0, .int 0, .int 0, .int 0])), (q86_6, .inr (1, [.int 6, .int 0, .int 1, .int 1, .int 0, .int 0, .int 0, .long 0, .int 0, .long 1000000000000, .int 0, .int 0, .int 0, .int 0])), (q86_7, .inr (1, [.int 7, .int 0, .int 1, .int 1, .int 0, .int 0, .int 0, .long 0, .int 0, .long 1000000000000, .int 0, .int 0, .int 0, .int 0])), (q133, .inr (0, [.ref ra8, .ref rb8, .int 0])), (ra8, .inl (ca8, 4, .inl (fun _ => 0))), (rb8, .inl (cb8, 4, .inl (fun _ => 0))), (q133_9, .inr (0, [.null, .null, .int 0]))] := hD
  refine W.widen (k := 16) (n := 142) (by omega) (by omega) ?_
  refine lv_dup hx hb dX_init_136 rfl ?_
  have hPc := hP.sub (ws' := [(q133_9, .inr (0, [.null, .null, .int 0]))]) [16] rfl
  have hKc := hK.sub (tys' := []) [] rfl
  have hDc := hD.sub (ws' := [(q133_9, .inr (0, [.null, .null, .int 0]))]) [16] (by decide) rfl
  have hFc := va_free (wc := [(q133_9, .inr (0, [.null, .null, .int 0]))]) hD hS hA [16] rfl
  refine va_callv (va_runIN (As := []) (rest := [.ref q133_9, .int 1, .ref q29]) ⟨hx, hb, hml, hown, hts⟩ (xc_Q_init l dC dI q133_9 H.size) ⟨va_cnB 0 hts (kn_I wd_91) rfl rfl rfl hNw (hts _ (List.mem_cons_of_mem _ wd_4)) (by decide +kernel) ⟨Nat.le_of_ble_eq_true rfl, Nat.le_of_ble_eq_true rfl⟩, rfl, hts _ (List.mem_cons_of_mem _ wd_90)⟩ ⟨kk_blind2, fun U hU hW => ⟨rfl, by rw [hU], by rw [hU]; exact hPc, va_K.moved hW.alike hKc⟩⟩ rfl rfl hl.1 rfl (lv_room (Nat.le_of_ble_eq_true rfl)) dX_init_137 ⟨Nat.le_of_ble_eq_true rfl, Nat.le_of_ble_eq_true rfl⟩) hS (fun q _ h => hFc q h) hFc (fun u t H1 locs ht hvm hw hB hz1 hk1 hS => ?_)
  obtain ⟨ra10, rb10, ca10, cb10⟩ := u
  obtain ⟨hP1, hK1, hD1⟩ := hB
  rw [ht] at hP1
  have hK1 := va_K.moved hvm.symm hK1
  obtain ⟨hP, hD⟩ := va_join (wr := [(h0, .inr (2, [.int (if 1 < (if slice < 20 then slice else 20) then (if slice < 20 then slice else 20) else 1), .int (if 1 < (if ceiling < 31 then ceiling else 31) then (if ceiling < 31 then ceiling else 31) else 1), .ref q7, .ref q15, .ref q22, .ref q29, .int 0, .long 0])), (q7, .inl (c7, 8, .inr (.inr (.inr (.inr (va_up (va_up (va_up (va_up (va_up (va_up (va_up (va_up (fun _ => none) 0 (some q86)) 1 (some q86_1)) 2 (some q86_2)) 3 (some q86_3)) 4 (some q86_4)) 5 (some q86_5)) 6 (some q86_6)) 7 (some q86_7))))))), (q15, .inl (c15, 4, .inl (upd (upd (upd (upd (fun _ => 0) 0 (-1)) 1 (-1)) 2 (-1)) 3 (-1)))), (q22, .inl (c22, 2, .inl (fun _ => 0))), (q29, .inl (c29, 2, .inr (.inr (.inr (.inr (va_up (fun _ => none) 0 (some q133))))))), (q86, .inr (1, [.int 0, .int 0, .int 1, .int 1, .int 0, .int 0, .int 0, .long 0, .int 0, .long 1000000000000, .int 0, .int 0, .int 0, .int 0])), (q86_1, .inr (1, [.int 1, .int 0, .int 1, .int 1, .int 0, .int 0, .int 0, .long 0, .int 0, .long 1000000000000, .int 0, .int 0, .int 0, .int 0])), (q86_2, .inr (1, [.int 2, .int 0, .int 1, .int 1, .int 0, .int 0, .int 0, .long 0, .int 0, .long 1000000000000, .int 0, .int 0, .int 0, .int 0])), (q86_3, .inr (1, [.int 3, .int 0, .int 1, .int 1, .int 0, .int 0, .int 0, .long 0, .int 0, .long 1000000000000, .int 0, .int 0, .int 0, .int 0])), (q86_4, .inr (1, [.int 4, .int 0, .int 1, .int 1, .int 0, .int 0, .int 0, .long 0, .int 0, .long 1000000000000, .int 0, .int 0, .int 0, .int 0])), (q86_5, .inr (1, [.int 5, .int 0, .int 1, .int 1, .int 0, .int 0, .int 0, .long 0, .int 0, .long 1000000000000, .int 0, .int 0, .int 0, .int 0])), (q86_6, .inr (1, [.int 6, .int 0, .int 1, .int 1, .int 0, .int 0, .int 0, .long 0, .int 0, .long 1000000000000, .int 0, .int 0, .int 0, .int 0])), (q86_7, .inr (1, [.int 7, .int 0, .int 1, .int 1, .int 0, .int 0, .int 0, .long 0, .int 0, .long 1000000000000, .int 0, .int 0, .int 0, .int 0])), (q133, .inr (0, [.ref ra8, .ref rb8, .int 0])), (ra8, .inl (ca8, 4, .inl (fun _ => 0))), (rb8, .inl (cb8, 4, .inl (fun _ => 0)))]) (w1 := [(q133_9, .inr (0, [.ref ra10, .ref rb10, .int 0])), (ra10, .inl (ca10, 4, .inl (fun _ => 0))), (rb10, .inl (cb10, 4, .inl (fun _ => 0)))]) hP hD [16] [0, 1, 2, 3, 4, 5, 6, 7, 8, 9, 10, 11, 12, 13, 14, 15] rfl rfl (by decide) (by decide) hk1 hFc hP1 hD1
  have hK := (hK.sub (tys' := [(c7, .object R_T), (c15, .int), (c22, .int), (c29, .object R_Q), (ca8, .int), (cb8, .int)]) [0, 1, 2, 3, 4, 5] rfl).app hK1
  generalize H1 = H at hP hS ⊢
  have hP : va_P (dC, dI) vwCl [(h0, .inr (2, [.int (if 1 < (if slice < 20 then slice else 20) then (if slice < 20 then slice else 20) else 1), .int (if 1 < (if ceiling < 31 then ceiling else 31) then (if ceiling < 31 then ceiling else 31) else 1), .ref q7, .ref q15, .ref q22, .ref q29, .int 0, .long 0])), (q7, .inl (c7, 8, .inr (.inr (.inr (.inr (va_up (va_up (va_up (va_up (va_up (va_up (va_up (va_up (fun _ => none) 0 (some q86)) 1 (some q86_1)) 2 (some q86_2)) 3 (some q86_3)) 4 (some q86_4)) 5 (some q86_5)) 6 (some q86_6)) 7 (some q86_7))))))), (q15, .inl (c15, 4, .inl (upd (upd (upd (upd (fun _ => 0) 0 (-1)) 1 (-1)) 2 (-1)) 3 (-1)))), (q22, .inl (c22, 2, .inl (fun _ => 0))), (q29, .inl (c29, 2, .inr (.inr (.inr (.inr (va_up (fun _ => none) 0 (some q133))))))), (q86, .inr (1, [.int 0, .int 0, .int 1, .int 1, .int 0, .int 0, .int 0, .long 0, .int 0, .long 1000000000000, .int 0, .int 0, .int 0, .int 0])), (q86_1, .inr (1, [.int 1, .int 0, .int 1, .int 1, .int 0, .int 0, .int 0, .long 0, .int 0, .long 1000000000000, .int 0, .int 0, .int 0, .int 0])), (q86_2, .inr (1, [.int 2, .int 0, .int 1, .int 1, .int 0, .int 0, .int 0, .long 0, .int 0, .long 1000000000000, .int 0, .int 0, .int 0, .int 0])), (q86_3, .inr (1, [.int 3, .int 0, .int 1, .int 1, .int 0, .int 0, .int 0, .long 0, .int 0, .long 1000000000000, .int 0, .int 0, .int 0, .int 0])), (q86_4, .inr (1, [.int 4, .int 0, .int 1, .int 1, .int 0, .int 0, .int 0, .long 0, .int 0, .long 1000000000000, .int 0, .int 0, .int 0, .int 0])), (q86_5, .inr (1, [.int 5, .int 0, .int 1, .int 1, .int 0, .int 0, .int 0, .long 0, .int 0, .long 1000000000000, .int 0, .int 0, .int 0, .int 0])), (q86_6, .inr (1, [.int 6, .int 0, .int 1, .int 1, .int 0, .int 0, .int 0, .long 0, .int 0, .long 1000000000000, .int 0, .int 0, .int 0, .int 0])), (q86_7, .inr (1, [.int 7, .int 0, .int 1, .int 1, .int 0, .int 0, .int 0, .long 0, .int 0, .long 1000000000000, .int 0, .int 0, .int 0, .int 0])), (q133, .inr (0, [.ref ra8, .ref rb8, .int 0])), (ra8, .inl (ca8, 4, .inl (fun _ => 0))), (rb8, .inl (cb8, 4, .inl (fun _ => 0))), (q133_9, .inr (0, [.ref ra10, .ref rb10, .int 0])), (ra10, .inl (ca10, 4, .inl (fun _ => 0))), (rb10, .inl (cb10, 4, .inl (fun _ => 0)))] H := hP
  have hD : va_D A [(h0, .inr (2, [.int (if 1 < (if slice < 20 then slice else 20) then (if slice < 20 then slice else 20) else 1), .int (if 1 < (if ceiling < 31 then ceiling else 31) then (if ceiling < 31 then ceiling else 31) else 1), .ref q7, .ref q15, .ref q22, .ref q29, .int 0, .long 0])), (q7, .inl (c7, 8, .inr (.inr (.inr (.inr (va_up (va_up (va_up (va_up (va_up (va_up (va_up (va_up (fun _ => none) 0 (some q86)) 1 (some q86_1)) 2 (some q86_2)) 3 (some q86_3)) 4 (some q86_4)) 5 (some q86_5)) 6 (some q86_6)) 7 (some q86_7))))))), (q15, .inl (c15, 4, .inl (upd (upd (upd (upd (fun _ => 0) 0 (-1)) 1 (-1)) 2 (-1)) 3 (-1)))), (q22, .inl (c22, 2, .inl (fun _ => 0))), (q29, .inl (c29, 2, .inr (.inr (.inr (.inr (va_up (fun _ => none) 0 (some q133))))))), (q86, .inr (1, [.int 0, .int 0, .int 1, .int 1, .int 0, .int 0, .int 0, .long 0, .int 0, .long 1000000000000, .int 0, .int 0, .int 0, .int 0])), (q86_1, .inr (1, [.int 1, .int 0, .int 1, .int 1, .int 0, .int 0, .int 0, .long 0, .int 0, .long 1000000000000, .int 0, .int 0, .int 0, .int 0])), (q86_2, .inr (1, [.int 2, .int 0, .int 1, .int 1, .int 0, .int 0, .int 0, .long 0, .int 0, .long 1000000000000, .int 0, .int 0, .int 0, .int 0])), (q86_3, .inr (1, [.int 3, .int 0, .int 1, .int 1, .int 0, .int 0, .int 0, .long 0, .int 0, .long 1000000000000, .int 0, .int 0, .int 0, .int 0])), (q86_4, .inr (1, [.int 4, .int 0, .int 1, .int 1, .int 0, .int 0, .int 0, .long 0, .int 0, .long 1000000000000, .int 0, .int 0, .int 0, .int 0])), (q86_5, .inr (1, [.int 5, .int 0, .int 1, .int 1, .int 0, .int 0, .int 0, .long 0, .int 0, .long 1000000000000, .int 0, .int 0, .int 0, .int 0])), (q86_6, .inr (1, [.int 6, .int 0, .int 1, .int 1, .int 0, .int 0, .int 0, .long 0, .int 0, .long 1000000000000, .int 0, .int 0, .int 0, .int 0])), (q86_7, .inr (1, [.int 7, .int 0, .int 1, .int 1, .int 0, .int 0, .int 0, .long 0, .int 0, .long 1000000000000, .int 0, .int 0, .int 0, .int 0])), (q133, .inr (0, [.ref ra8, .ref rb8, .int 0])), (ra8, .inl (ca8, 4, .inl (fun _ => 0))), (rb8, .inl (cb8, 4, .inl (fun _ => 0))), (q133_9, .inr (0, [.ref ra10, .ref rb10, .int 0])), (ra10, .inl (ca10, 4, .inl (fun _ => 0))), (rb10, .inl (cb10, 4, .inl (fun _ => 0)))] := hD
  have hK : va_K (dC, dI) vwCl [(c7, .object R_T), (c15, .int), (c22, .int), (c29, .object R_Q), (ca8, .int), (cb8, .int), (ca10, .int), (cb10, .int)] s := hK
  refine W.widen (k := 18) (n := 150) (by omega) (by omega) ?_
  refine va_astq hx hb hK hP hD hS 4 3 16 0 rfl rfl rfl rfl (kk_inl (by decide)) dX_init_140 (fun H locs hP hD hS => ?_)
  rw [kk_c1] at hP hD
  have hP : va_P (dC, dI) vwCl [(h0, .inr (2, [.int (if 1 < (if slice < 20 then slice else 20) then (if slice < 20 then slice else 20) else 1), .int (if 1 < (if ceiling < 31 then ceiling else 31) then (if ceiling < 31 then ceiling else 31) else 1), .ref q7, .ref q15, .ref q22, .ref q29, .int 0, .long 0])), (q7, .inl (c7, 8, .inr (.inr (.inr (.inr (va_up (va_up (va_up (va_up (va_up (va_up (va_up (va_up (fun _ => none) 0 (some q86)) 1 (some q86_1)) 2 (some q86_2)) 3 (some q86_3)) 4 (some q86_4)) 5 (some q86_5)) 6 (some q86_6)) 7 (some q86_7))))))), (q15, .inl (c15, 4, .inl (upd (upd (upd (upd (fun _ => 0) 0 (-1)) 1 (-1)) 2 (-1)) 3 (-1)))), (q22, .inl (c22, 2, .inl (fun _ => 0))), (q29, .inl (c29, 2, .inr (.inr (.inr (.inr (va_up (va_up (fun _ => none) 0 (some q133)) 1 (some q133_9))))))), (q86, .inr (1, [.int 0, .int 0, .int 1, .int 1, .int 0, .int 0, .int 0, .long 0, .int 0, .long 1000000000000, .int 0, .int 0, .int 0, .int 0])), (q86_1, .inr (1, [.int 1, .int 0, .int 1, .int 1, .int 0, .int 0, .int 0, .long 0, .int 0, .long 1000000000000, .int 0, .int 0, .int 0, .int 0])), (q86_2, .inr (1, [.int 2, .int 0, .int 1, .int 1, .int 0, .int 0, .int 0, .long 0, .int 0, .long 1000000000000, .int 0, .int 0, .int 0, .int 0])), (q86_3, .inr (1, [.int 3, .int 0, .int 1, .int 1, .int 0, .int 0, .int 0, .long 0, .int 0, .long 1000000000000, .int 0, .int 0, .int 0, .int 0])), (q86_4, .inr (1, [.int 4, .int 0, .int 1, .int 1, .int 0, .int 0, .int 0, .long 0, .int 0, .long 1000000000000, .int 0, .int 0, .int 0, .int 0])), (q86_5, .inr (1, [.int 5, .int 0, .int 1, .int 1, .int 0, .int 0, .int 0, .long 0, .int 0, .long 1000000000000, .int 0, .int 0, .int 0, .int 0])), (q86_6, .inr (1, [.int 6, .int 0, .int 1, .int 1, .int 0, .int 0, .int 0, .long 0, .int 0, .long 1000000000000, .int 0, .int 0, .int 0, .int 0])), (q86_7, .inr (1, [.int 7, .int 0, .int 1, .int 1, .int 0, .int 0, .int 0, .long 0, .int 0, .long 1000000000000, .int 0, .int 0, .int 0, .int 0])), (q133, .inr (0, [.ref ra8, .ref rb8, .int 0])), (ra8, .inl (ca8, 4, .inl (fun _ => 0))), (rb8, .inl (cb8, 4, .inl (fun _ => 0))), (q133_9, .inr (0, [.ref ra10, .ref rb10, .int 0])), (ra10, .inl (ca10, 4, .inl (fun _ => 0))), (rb10, .inl (cb10, 4, .inl (fun _ => 0)))] H := hP
  have hD : va_D A [(h0, .inr (2, [.int (if 1 < (if slice < 20 then slice else 20) then (if slice < 20 then slice else 20) else 1), .int (if 1 < (if ceiling < 31 then ceiling else 31) then (if ceiling < 31 then ceiling else 31) else 1), .ref q7, .ref q15, .ref q22, .ref q29, .int 0, .long 0])), (q7, .inl (c7, 8, .inr (.inr (.inr (.inr (va_up (va_up (va_up (va_up (va_up (va_up (va_up (va_up (fun _ => none) 0 (some q86)) 1 (some q86_1)) 2 (some q86_2)) 3 (some q86_3)) 4 (some q86_4)) 5 (some q86_5)) 6 (some q86_6)) 7 (some q86_7))))))), (q15, .inl (c15, 4, .inl (upd (upd (upd (upd (fun _ => 0) 0 (-1)) 1 (-1)) 2 (-1)) 3 (-1)))), (q22, .inl (c22, 2, .inl (fun _ => 0))), (q29, .inl (c29, 2, .inr (.inr (.inr (.inr (va_up (va_up (fun _ => none) 0 (some q133)) 1 (some q133_9))))))), (q86, .inr (1, [.int 0, .int 0, .int 1, .int 1, .int 0, .int 0, .int 0, .long 0, .int 0, .long 1000000000000, .int 0, .int 0, .int 0, .int 0])), (q86_1, .inr (1, [.int 1, .int 0, .int 1, .int 1, .int 0, .int 0, .int 0, .long 0, .int 0, .long 1000000000000, .int 0, .int 0, .int 0, .int 0])), (q86_2, .inr (1, [.int 2, .int 0, .int 1, .int 1, .int 0, .int 0, .int 0, .long 0, .int 0, .long 1000000000000, .int 0, .int 0, .int 0, .int 0])), (q86_3, .inr (1, [.int 3, .int 0, .int 1, .int 1, .int 0, .int 0, .int 0, .long 0, .int 0, .long 1000000000000, .int 0, .int 0, .int 0, .int 0])), (q86_4, .inr (1, [.int 4, .int 0, .int 1, .int 1, .int 0, .int 0, .int 0, .long 0, .int 0, .long 1000000000000, .int 0, .int 0, .int 0, .int 0])), (q86_5, .inr (1, [.int 5, .int 0, .int 1, .int 1, .int 0, .int 0, .int 0, .long 0, .int 0, .long 1000000000000, .int 0, .int 0, .int 0, .int 0])), (q86_6, .inr (1, [.int 6, .int 0, .int 1, .int 1, .int 0, .int 0, .int 0, .long 0, .int 0, .long 1000000000000, .int 0, .int 0, .int 0, .int 0])), (q86_7, .inr (1, [.int 7, .int 0, .int 1, .int 1, .int 0, .int 0, .int 0, .long 0, .int 0, .long 1000000000000, .int 0, .int 0, .int 0, .int 0])), (q133, .inr (0, [.ref ra8, .ref rb8, .int 0])), (ra8, .inl (ca8, 4, .inl (fun _ => 0))), (rb8, .inl (cb8, 4, .inl (fun _ => 0))), (q133_9, .inr (0, [.ref ra10, .ref rb10, .int 0])), (ra10, .inl (ca10, 4, .inl (fun _ => 0))), (rb10, .inl (cb10, 4, .inl (fun _ => 0)))] := hD
  refine lv_iinc (v := 2) (lv' := [(3, .int 2), (0, .ref h0), (1, .int slice), (2, .int ceiling)]) hx hb dX_init_141 hl (k := 0) rfl (by decide) (by decide) rfl (fun ls hl => ?_)
  refine lv_goto (tgt := 123) hx hb dX_init_144 (by decide) ?_
  refine lv_iload_n hx hb dX_init_123 rfl (lv_at hl 0 rfl) ?_
  refine lv_iconst (v := 2) hx hb dX_init_124 (by decide) ?_
  refine lv_icmp_ge (tgt := 147) hx hb dX_init_125 (by decide) (fun _ => ?_) (fun c9 => absurd (by decide) c9)
  subst hf
  have hT : (va_up (va_up (va_up (va_up (va_up (va_up (va_up (va_up (fun _ => none) 0 (some q86)) 1 (some q86_1)) 2 (some q86_2)) 3 (some q86_3)) 4 (some q86_4)) 5 (some q86_5)) 6 (some q86_6)) 7 (some q86_7)) = (fun i => if i < 8 then some (kx_ta (fun k => match k with | 0 => h0 | 1 => q7 | 2 => q15 | 3 => q22 | 4 => q29 | 5 => q133 | 6 => q133_9 | 7 => ra8 | 8 => ra10 | 9 => rb8 | 10 => rb10 | 11 => q86 | 12 => q86_1 | 13 => q86_2 | 14 => q86_3 | 15 => q86_4 | 16 => q86_5 | 17 => q86_6 | _ => q86_7) i) else none) := by
    funext i
    match i with
    | 0 => rfl
    | 1 => rfl
    | 2 => rfl
    | 3 => rfl
    | 4 => rfl
    | 5 => rfl
    | 6 => rfl
    | 7 => rfl
    | i + 8 => simp [va_up]
  have hQ : (va_up (va_up (fun _ => none) 0 (some q133)) 1 (some q133_9)) = (fun i => if i < 2 then some (kx_qa (fun k => match k with | 0 => h0 | 1 => q7 | 2 => q15 | 3 => q22 | 4 => q29 | 5 => q133 | 6 => q133_9 | 7 => ra8 | 8 => ra10 | 9 => rb8 | 10 => rb10 | 11 => q86 | 12 => q86_1 | 13 => q86_2 | 14 => q86_3 | 15 => q86_4 | 16 => q86_5 | 17 => q86_6 | _ => q86_7) i) else none) := by
    funext i
    match i with
    | 0 => rfl
    | 1 => rfl
    | i + 2 => simp [va_up]
  rw [hT, hQ] at hP hD
  have hP9 := hP.sub (ws' := kx_w (fun k => match k with | 0 => h0 | 1 => q7 | 2 => q15 | 3 => q22 | 4 => q29 | 5 => q133 | 6 => q133_9 | 7 => ra8 | 8 => ra10 | 9 => rb8 | 10 => rb10 | 11 => q86 | 12 => q86_1 | 13 => q86_2 | 14 => q86_3 | 15 => q86_4 | 16 => q86_5 | 17 => q86_6 | _ => q86_7) (fun k => match k with | 1 => c7 | 2 => c15 | 3 => c22 | 4 => c29 | 7 => ca8 | 8 => ca10 | 9 => cb8 | _ => cb10) (kx_0 (if 1 < (if slice < 20 then slice else 20) then (if slice < 20 then slice else 20) else 1) (if 1 < (if ceiling < 31 then ceiling else 31) then (if ceiling < 31 then ceiling else 31) else 1))) [0, 1, 2, 3, 4, 13, 16, 14, 17, 15, 18, 5, 6, 7, 8, 9, 10, 11, 12] rfl
  have hD9 := hD.sub (ws' := kx_w (fun k => match k with | 0 => h0 | 1 => q7 | 2 => q15 | 3 => q22 | 4 => q29 | 5 => q133 | 6 => q133_9 | 7 => ra8 | 8 => ra10 | 9 => rb8 | 10 => rb10 | 11 => q86 | 12 => q86_1 | 13 => q86_2 | 14 => q86_3 | 15 => q86_4 | 16 => q86_5 | 17 => q86_6 | _ => q86_7) (fun k => match k with | 1 => c7 | 2 => c15 | 3 => c22 | 4 => c29 | 7 => ca8 | 8 => ca10 | 9 => cb8 | _ => cb10) (kx_0 (if 1 < (if slice < 20 then slice else 20) then (if slice < 20 then slice else 20) else 1) (if 1 < (if ceiling < 31 then ceiling else 31) then (if ceiling < 31 then ceiling else 31) else 1))) [0, 1, 2, 3, 4, 13, 16, 14, 17, 15, 18, 5, 6, 7, 8, 9, 10, 11, 12] (by decide) rfl
  have hK9 := hK.sub (tys' := kx_t (fun k => match k with | 1 => c7 | 2 => c15 | 3 => c22 | 4 => c29 | 7 => ca8 | 8 => ca10 | 9 => cb8 | _ => cb10)) [0, 1, 2, 3, 4, 6, 5, 7] rfl
  exact W.vret hx hb hr (fun t ht hW => ⟨⟨(fun k => match k with | 0 => h0 | 1 => q7 | 2 => q15 | 3 => q22 | 4 => q29 | 5 => q133 | 6 => q133_9 | 7 => ra8 | 8 => ra10 | 9 => rb8 | 10 => rb10 | 11 => q86 | 12 => q86_1 | 13 => q86_2 | 14 => q86_3 | 15 => q86_4 | 16 => q86_5 | 17 => q86_6 | _ => q86_7, fun k => match k with | 1 => c7 | 2 => c15 | 3 => c22 | 4 => c29 | 7 => ca8 | 8 => ca10 | 9 => cb8 | _ => cb10), rfl, rfl, by rw [ht]; exact hP9, va_K.moved hW.alike hK9, hD9⟩, hS.F ht⟩) hS.2.2 dX_init_147 hlocks
set_option maxHeartbeats 4000000 in
set_option maxRecDepth 100000 in
theorem mc_init (l : Launch) (dC : Nat → ClassId) (dI : Nat → Nat → Nat) (h0 sz : Nat) (slice ceiling : Int32) : Met l y_M_init ws_M_init ({ frames := 1, cells := 19, slots := 136, locals := 20 }) (va_Pc [.ref h0, .int slice, .int ceiling] (fun U => U.heap.size = sz ∧ va_P (dC, dI) vwCl [(h0, .inr (3, [.int 0, .int 0, .int 0, .int 0, .null, .null, .null, .null, .null, .null, .null, .null, .null, .null, .null, .null, .null, .null, .null, .null, .null, .null, .null]))] U.heap ∧ va_K (dC, dI) vwCl [] U)) (va_Qv (fun (u : (Nat → Nat) × (Nat → ClassId)) => u.1 0 = h0) (fun u t => va_P (dC, dI) vwCl (km_w u.1 u.2 (mf_init slice ceiling)) t.heap ∧ va_K (dC, dI) vwCl (km_t u.2) t ∧ va_D (va_A [(h0, .inr (3, [.int 0, .int 0, .int 0, .int 0, .null, .null, .null, .null, .null, .null, .null, .null, .null, .null, .null, .null, .null, .null, .null, .null, .null, .null, .null]))] sz) (km_w u.1 u.2 (mf_init slice ceiling))) (va_A [(h0, .inr (3, [.int 0, .int 0, .int 0, .int 0, .null, .null, .null, .null, .null, .null, .null, .null, .null, .null, .null, .null, .null, .null, .null, .null, .null, .null, .null]))] sz)) 19 136 (va_A [(h0, .inr (3, [.int 0, .int 0, .int 0, .int 0, .null, .null, .null, .null, .null, .null, .null, .null, .null, .null, .null, .null, .null, .null, .null, .null, .null, .null, .null]))] sz) := by
  refine Met.ofW (cc := b_M_init) (maxL := 4) (ret := none) (by decide) rfl ?_
  intro p e s m args below meth c s₁ B hml hv
  obtain ⟨rfl, hsz, hP, hK⟩ := hv
  have hx := B.exec
  have hb := B.bytes
  have hr := B.returns
  have hts := atoms_spec (ws := ws_M_init) B.pre
  have hown : s.vm.findClass R_M = some m.cls := findClass_of_methodNamed B.named
  have hlocks := B.notSynchronized
  have hin : meth.name = "<init>" := (name_of_methodNamed B.named B.method).1
  subst hsz
  have hD : va_D (va_A [(h0, .inr (3, [.int 0, .int 0, .int 0, .int 0, .null, .null, .null, .null, .null, .null, .null, .null, .null, .null, .null, .null, .null, .null, .null, .null, .null, .null, .null]))] s.heap.size) [(h0, .inr (3, [.int 0, .int 0, .int 0, .int 0, .null, .null, .null, .null, .null, .null, .null, .null, .null, .null, .null, .null, .null, .null, .null, .null, .null, .null, .null]))] := kk_D1 (Or.inl ⟨0, _, rfl⟩)
  generalize hAe : va_A [(h0, .inr (3, [.int 0, .int 0, .int 0, .int 0, .null, .null, .null, .null, .null, .null, .null, .null, .null, .null, .null, .null, .null, .null, .null, .null, .null, .null, .null]))] s.heap.size = A at hD ⊢
  have hA : ∀ q : Nat, s.heap.size ≤ q → A q := fun q h => by rw [← hAe]; exact Or.inr h
  have hS : va_S A s.heap s.heap [] := va_S.rf
  generalize hf : mf_init slice ceiling = out
  have hl := lv_entry ([.ref h0, .int slice, .int ceiling]) (n := 4) (Nat.le_of_ble_eq_true rfl)
  rw [lg_entry_eq]
  generalize (lg_sl ([.ref h0, .int slice, .int ceiling]) ++ List.replicate (4 - (lg_sl ([.ref h0, .int slice, .int ceiling])).length) Slot.unset).toArray = ls at hl ⊢
  have hl : lv_has ls 4 [(0, .ref h0), (1, .int slice), (2, .int ceiling)] := hl
  rw [mf_init] at hf
  refine lv_aload_n hx hb dM_init_0 rfl (lv_at hl 0 rfl) ?_
  refine W.objInit hx hb hown (hts _ (List.mem_cons_of_mem _ wd_330)) (hts _ (List.mem_cons_of_mem _ wd_12)) (hts _ (List.mem_cons_of_mem _ wd_13)) rfl (by rw [hml]; exact hl.1) rfl dM_init_1 (Nat.le_of_ble_eq_true rfl) (Nat.le_of_ble_eq_true rfl) ?_
  refine W.eq (g2 := F0 m 4 ls []) rfl ?_
  refine lv_aload_n hx hb dM_init_4 rfl (lv_at hl 0 rfl) ?_
  refine lv_iconst (v := 0) hx hb dM_init_5 (by decide) ?_
  refine va_put (D := (dC, dI)) (ci := 3) (v := .int 0) (ty := .int) (C := R_M) (T := T_M) (N := 23) hx hb hts uw_M ty_M ty_M_ok nm_M hown hK hP hD hS 0 rfl rfl 2 (by decide) (hts _ (List.mem_cons_of_mem _ wd_333)) (fun _ h9 => h9) rfl (by decide +kernel) rfl rfl (Nat.le_of_ble_eq_true rfl) dM_init_6 (fun H locs hP hD hS => ?_)
  have hP : va_P (dC, dI) vwCl [(h0, .inr (3, [.int 0, .int 0, .int 0, .int 0, .null, .null, .null, .null, .null, .null, .null, .null, .null, .null, .null, .null, .null, .null, .null, .null, .null, .null, .null]))] H := hP
  have hD : va_D A [(h0, .inr (3, [.int 0, .int 0, .int 0, .int 0, .null, .null, .null, .null, .null, .null, .null, .null, .null, .null, .null, .null, .null, .null, .null, .null, .null, .null, .null]))] := hD
  refine lv_aload_n hx hb dM_init_9 rfl (lv_at hl 0 rfl) ?_
  refine lv_iconst (v := 0) hx hb dM_init_10 (by decide) ?_
  refine va_put (D := (dC, dI)) (ci := 3) (v := .int 0) (ty := .int) (C := R_M) (T := T_M) (N := 23) hx hb hts uw_M ty_M ty_M_ok nm_M hown hK hP hD hS 0 rfl rfl 3 (by decide) (hts _ (List.mem_cons_of_mem _ wd_334)) (fun _ h9 => h9) rfl (by decide +kernel) rfl rfl (Nat.le_of_ble_eq_true rfl) dM_init_11 (fun H locs hP hD hS => ?_)
  have hP : va_P (dC, dI) vwCl [(h0, .inr (3, [.int 0, .int 0, .int 0, .int 0, .null, .null, .null, .null, .null, .null, .null, .null, .null, .null, .null, .null, .null, .null, .null, .null, .null, .null, .null]))] H := hP
  have hD : va_D A [(h0, .inr (3, [.int 0, .int 0, .int 0, .int 0, .null, .null, .null, .null, .null, .null, .null, .null, .null, .null, .null, .null, .null, .null, .null, .null, .null, .null, .null]))] := hD
  refine lv_aload_n hx hb dM_init_14 rfl (lv_at hl 0 rfl) ?_
  refine lv_bipush (v := 8) hx hb dM_init_15 (by decide) ?_
  refine va_newa (atype := .int) (N' := 8) (a0 := (8, .inl (fun _ => 0))) (ty := .int) hx hb (hts _ (List.mem_cons_of_mem _ wd_87)) rfl hK hP hD hS hA (fun _ => rfl) (by decide) (by decide) (by decide) (Nat.le_of_ble_eq_true rfl) (Nat.le_of_ble_eq_true rfl) dM_init_17 (fun q17 c17 H hK hP hD hS => ?_)
  have hP : va_P (dC, dI) vwCl [(h0, .inr (3, [.int 0, .int 0, .int 0, .int 0, .null, .null, .null, .null, .null, .null, .null, .null, .null, .null, .null, .null, .null, .null, .null, .null, .null, .null, .null])), (q17, .inl (c17, 8, .inl (fun _ => 0)))] H := hP
  have hD : va_D A [(h0, .inr (3, [.int 0, .int 0, .int 0, .int 0, .null, .null, .null, .null, .null, .null, .null, .null, .null, .null, .null, .null, .null, .null, .null, .null, .null, .null, .null])), (q17, .inl (c17, 8, .inl (fun _ => 0)))] := hD
  have hK : va_K (dC, dI) vwCl [(c17, .int)] s := hK
  refine W.widen (k := 1) (n := 8) (by omega) (by omega) ?_
  refine va_putF (D := (dC, dI)) (ci := 3) (v := .ref q17) (ty := .array .int) (C := R_M) (T := T_M) (N := 23) hx hb hts uw_M ty_M ty_M_ok nm_M hown hK hP hD hS 0 rfl rfl 4 (by decide) (hts _ (List.mem_cons_of_mem _ wd_335)) (fun _ h9 => h9) rfl hin rfl (by decide +kernel) rfl rfl (Nat.le_of_ble_eq_true rfl) dM_init_19 (fun H locs hP hD hS => ?_)
  have hP : va_P (dC, dI) vwCl [(h0, .inr (3, [.int 0, .int 0, .int 0, .int 0, .ref q17, .null, .null, .null, .null, .null, .null, .null, .null, .null, .null, .null, .null, .null, .null, .null, .null, .null, .null])), (q17, .inl (c17, 8, .inl (fun _ => 0)))] H := hP
  have hD : va_D A [(h0, .inr (3, [.int 0, .int 0, .int 0, .int 0, .ref q17, .null, .null, .null, .null, .null, .null, .null, .null, .null, .null, .null, .null, .null, .null, .null, .null, .null, .null])), (q17, .inl (c17, 8, .inl (fun _ => 0)))] := hD
  refine lv_aload_n hx hb dM_init_22 rfl (lv_at hl 0 rfl) ?_
  refine lv_bipush (v := 8) hx hb dM_init_23 (by decide) ?_
  refine va_newa (atype := .int) (N' := 8) (a0 := (8, .inl (fun _ => 0))) (ty := .int) hx hb (hts _ (List.mem_cons_of_mem _ wd_87)) rfl hK hP hD hS hA (fun _ => rfl) (by decide) (by decide) (by decide) (Nat.le_of_ble_eq_true rfl) (Nat.le_of_ble_eq_true rfl) dM_init_25 (fun q25 c25 H hK hP hD hS => ?_)
  have hP : va_P (dC, dI) vwCl [(h0, .inr (3, [.int 0, .int 0, .int 0, .int 0, .ref q17, .null, .null, .null, .null, .null, .null, .null, .null, .null, .null, .null, .null, .null, .null, .null, .null, .null, .null])), (q17, .inl (c17, 8, .inl (fun _ => 0))), (q25, .inl (c25, 8, .inl (fun _ => 0)))] H := hP
  have hD : va_D A [(h0, .inr (3, [.int 0, .int 0, .int 0, .int 0, .ref q17, .null, .null, .null, .null, .null, .null, .null, .null, .null, .null, .null, .null, .null, .null, .null, .null, .null, .null])), (q17, .inl (c17, 8, .inl (fun _ => 0))), (q25, .inl (c25, 8, .inl (fun _ => 0)))] := hD
  have hK : va_K (dC, dI) vwCl [(c17, .int), (c25, .int)] s := hK
  refine W.widen (k := 2) (n := 16) (by omega) (by omega) ?_
  refine va_putF (D := (dC, dI)) (ci := 3) (v := .ref q25) (ty := .array .int) (C := R_M) (T := T_M) (N := 23) hx hb hts uw_M ty_M ty_M_ok nm_M hown hK hP hD hS 0 rfl rfl 5 (by decide) (hts _ (List.mem_cons_of_mem _ wd_336)) (fun _ h9 => h9) rfl hin rfl (by decide +kernel) rfl rfl (Nat.le_of_ble_eq_true rfl) dM_init_27 (fun H locs hP hD hS => ?_)
  have hP : va_P (dC, dI) vwCl [(h0, .inr (3, [.int 0, .int 0, .int 0, .int 0, .ref q17, .ref q25, .null, .null, .null, .null, .null, .null, .null, .null, .null, .null, .null, .null, .null, .null, .null, .null, .null])), (q17, .inl (c17, 8, .inl (fun _ => 0))), (q25, .inl (c25, 8, .inl (fun _ => 0)))] H := hP
  have hD : va_D A [(h0, .inr (3, [.int 0, .int 0, .int 0, .int 0, .ref q17, .ref q25, .null, .null, .null, .null, .null, .null, .null, .null, .null, .null, .null, .null, .null, .null, .null, .null, .null])), (q17, .inl (c17, 8, .inl (fun _ => 0))), (q25, .inl (c25, 8, .inl (fun _ => 0)))] := hD
  refine lv_aload_n hx hb dM_init_30 rfl (lv_at hl 0 rfl) ?_
  refine lv_bipush (v := 8) hx hb dM_init_31 (by decide) ?_
  refine va_newa (atype := .int) (N' := 8) (a0 := (8, .inl (fun _ => 0))) (ty := .int) hx hb (hts _ (List.mem_cons_of_mem _ wd_87)) rfl hK hP hD hS hA (fun _ => rfl) (by decide) (by decide) (by decide) (Nat.le_of_ble_eq_true rfl) (Nat.le_of_ble_eq_true rfl) dM_init_33 (fun q33 c33 H hK hP hD hS => ?_)
  have hP : va_P (dC, dI) vwCl [(h0, .inr (3, [.int 0, .int 0, .int 0, .int 0, .ref q17, .ref q25, .null, .null, .null, .null, .null, .null, .null, .null, .null, .null, .null, .null, .null, .null, .null, .null, .null])), (q17, .inl (c17, 8, .inl (fun _ => 0))), (q25, .inl (c25, 8, .inl (fun _ => 0))), (q33, .inl (c33, 8, .inl (fun _ => 0)))] H := hP
  have hD : va_D A [(h0, .inr (3, [.int 0, .int 0, .int 0, .int 0, .ref q17, .ref q25, .null, .null, .null, .null, .null, .null, .null, .null, .null, .null, .null, .null, .null, .null, .null, .null, .null])), (q17, .inl (c17, 8, .inl (fun _ => 0))), (q25, .inl (c25, 8, .inl (fun _ => 0))), (q33, .inl (c33, 8, .inl (fun _ => 0)))] := hD
  have hK : va_K (dC, dI) vwCl [(c17, .int), (c25, .int), (c33, .int)] s := hK
  refine W.widen (k := 3) (n := 24) (by omega) (by omega) ?_
  refine va_putF (D := (dC, dI)) (ci := 3) (v := .ref q33) (ty := .array .int) (C := R_M) (T := T_M) (N := 23) hx hb hts uw_M ty_M ty_M_ok nm_M hown hK hP hD hS 0 rfl rfl 6 (by decide) (hts _ (List.mem_cons_of_mem _ wd_337)) (fun _ h9 => h9) rfl hin rfl (by decide +kernel) rfl rfl (Nat.le_of_ble_eq_true rfl) dM_init_35 (fun H locs hP hD hS => ?_)
  have hP : va_P (dC, dI) vwCl [(h0, .inr (3, [.int 0, .int 0, .int 0, .int 0, .ref q17, .ref q25, .ref q33, .null, .null, .null, .null, .null, .null, .null, .null, .null, .null, .null, .null, .null, .null, .null, .null])), (q17, .inl (c17, 8, .inl (fun _ => 0))), (q25, .inl (c25, 8, .inl (fun _ => 0))), (q33, .inl (c33, 8, .inl (fun _ => 0)))] H := hP
  have hD : va_D A [(h0, .inr (3, [.int 0, .int 0, .int 0, .int 0, .ref q17, .ref q25, .ref q33, .null, .null, .null, .null, .null, .null, .null, .null, .null, .null, .null, .null, .null, .null, .null, .null])), (q17, .inl (c17, 8, .inl (fun _ => 0))), (q25, .inl (c25, 8, .inl (fun _ => 0))), (q33, .inl (c33, 8, .inl (fun _ => 0)))] := hD
  refine lv_aload_n hx hb dM_init_38 rfl (lv_at hl 0 rfl) ?_
  refine lv_bipush (v := 8) hx hb dM_init_39 (by decide) ?_
  refine va_newa (atype := .int) (N' := 8) (a0 := (8, .inl (fun _ => 0))) (ty := .int) hx hb (hts _ (List.mem_cons_of_mem _ wd_87)) rfl hK hP hD hS hA (fun _ => rfl) (by decide) (by decide) (by decide) (Nat.le_of_ble_eq_true rfl) (Nat.le_of_ble_eq_true rfl) dM_init_41 (fun q41 c41 H hK hP hD hS => ?_)
  have hP : va_P (dC, dI) vwCl [(h0, .inr (3, [.int 0, .int 0, .int 0, .int 0, .ref q17, .ref q25, .ref q33, .null, .null, .null, .null, .null, .null, .null, .null, .null, .null, .null, .null, .null, .null, .null, .null])), (q17, .inl (c17, 8, .inl (fun _ => 0))), (q25, .inl (c25, 8, .inl (fun _ => 0))), (q33, .inl (c33, 8, .inl (fun _ => 0))), (q41, .inl (c41, 8, .inl (fun _ => 0)))] H := hP
  have hD : va_D A [(h0, .inr (3, [.int 0, .int 0, .int 0, .int 0, .ref q17, .ref q25, .ref q33, .null, .null, .null, .null, .null, .null, .null, .null, .null, .null, .null, .null, .null, .null, .null, .null])), (q17, .inl (c17, 8, .inl (fun _ => 0))), (q25, .inl (c25, 8, .inl (fun _ => 0))), (q33, .inl (c33, 8, .inl (fun _ => 0))), (q41, .inl (c41, 8, .inl (fun _ => 0)))] := hD
  have hK : va_K (dC, dI) vwCl [(c17, .int), (c25, .int), (c33, .int), (c41, .int)] s := hK
  refine W.widen (k := 4) (n := 32) (by omega) (by omega) ?_
  refine va_putF (D := (dC, dI)) (ci := 3) (v := .ref q41) (ty := .array .int) (C := R_M) (T := T_M) (N := 23) hx hb hts uw_M ty_M ty_M_ok nm_M hown hK hP hD hS 0 rfl rfl 7 (by decide) (hts _ (List.mem_cons_of_mem _ wd_338)) (fun _ h9 => h9) rfl hin rfl (by decide +kernel) rfl rfl (Nat.le_of_ble_eq_true rfl) dM_init_43 (fun H locs hP hD hS => ?_)
  have hP : va_P (dC, dI) vwCl [(h0, .inr (3, [.int 0, .int 0, .int 0, .int 0, .ref q17, .ref q25, .ref q33, .ref q41, .null, .null, .null, .null, .null, .null, .null, .null, .null, .null, .null, .null, .null, .null, .null])), (q17, .inl (c17, 8, .inl (fun _ => 0))), (q25, .inl (c25, 8, .inl (fun _ => 0))), (q33, .inl (c33, 8, .inl (fun _ => 0))), (q41, .inl (c41, 8, .inl (fun _ => 0)))] H := hP
  have hD : va_D A [(h0, .inr (3, [.int 0, .int 0, .int 0, .int 0, .ref q17, .ref q25, .ref q33, .ref q41, .null, .null, .null, .null, .null, .null, .null, .null, .null, .null, .null, .null, .null, .null, .null])), (q17, .inl (c17, 8, .inl (fun _ => 0))), (q25, .inl (c25, 8, .inl (fun _ => 0))), (q33, .inl (c33, 8, .inl (fun _ => 0))), (q41, .inl (c41, 8, .inl (fun _ => 0)))] := hD
  refine lv_aload_n hx hb dM_init_46 rfl (lv_at hl 0 rfl) ?_
  refine lv_bipush (v := 8) hx hb dM_init_47 (by decide) ?_
  refine va_newa (atype := .int) (N' := 8) (a0 := (8, .inl (fun _ => 0))) (ty := .int) hx hb (hts _ (List.mem_cons_of_mem _ wd_87)) rfl hK hP hD hS hA (fun _ => rfl) (by decide) (by decide) (by decide) (Nat.le_of_ble_eq_true rfl) (Nat.le_of_ble_eq_true rfl) dM_init_49 (fun q49 c49 H hK hP hD hS => ?_)
  have hP : va_P (dC, dI) vwCl [(h0, .inr (3, [.int 0, .int 0, .int 0, .int 0, .ref q17, .ref q25, .ref q33, .ref q41, .null, .null, .null, .null, .null, .null, .null, .null, .null, .null, .null, .null, .null, .null, .null])), (q17, .inl (c17, 8, .inl (fun _ => 0))), (q25, .inl (c25, 8, .inl (fun _ => 0))), (q33, .inl (c33, 8, .inl (fun _ => 0))), (q41, .inl (c41, 8, .inl (fun _ => 0))), (q49, .inl (c49, 8, .inl (fun _ => 0)))] H := hP
  have hD : va_D A [(h0, .inr (3, [.int 0, .int 0, .int 0, .int 0, .ref q17, .ref q25, .ref q33, .ref q41, .null, .null, .null, .null, .null, .null, .null, .null, .null, .null, .null, .null, .null, .null, .null])), (q17, .inl (c17, 8, .inl (fun _ => 0))), (q25, .inl (c25, 8, .inl (fun _ => 0))), (q33, .inl (c33, 8, .inl (fun _ => 0))), (q41, .inl (c41, 8, .inl (fun _ => 0))), (q49, .inl (c49, 8, .inl (fun _ => 0)))] := hD
  have hK : va_K (dC, dI) vwCl [(c17, .int), (c25, .int), (c33, .int), (c41, .int), (c49, .int)] s := hK
  refine W.widen (k := 5) (n := 40) (by omega) (by omega) ?_
  refine va_putF (D := (dC, dI)) (ci := 3) (v := .ref q49) (ty := .array .int) (C := R_M) (T := T_M) (N := 23) hx hb hts uw_M ty_M ty_M_ok nm_M hown hK hP hD hS 0 rfl rfl 8 (by decide) (hts _ (List.mem_cons_of_mem _ wd_339)) (fun _ h9 => h9) rfl hin rfl (by decide +kernel) rfl rfl (Nat.le_of_ble_eq_true rfl) dM_init_51 (fun H locs hP hD hS => ?_)
  have hP : va_P (dC, dI) vwCl [(h0, .inr (3, [.int 0, .int 0, .int 0, .int 0, .ref q17, .ref q25, .ref q33, .ref q41, .ref q49, .null, .null, .null, .null, .null, .null, .null, .null, .null, .null, .null, .null, .null, .null])), (q17, .inl (c17, 8, .inl (fun _ => 0))), (q25, .inl (c25, 8, .inl (fun _ => 0))), (q33, .inl (c33, 8, .inl (fun _ => 0))), (q41, .inl (c41, 8, .inl (fun _ => 0))), (q49, .inl (c49, 8, .inl (fun _ => 0)))] H := hP
  have hD : va_D A [(h0, .inr (3, [.int 0, .int 0, .int 0, .int 0, .ref q17, .ref q25, .ref q33, .ref q41, .ref q49, .null, .null, .null, .null, .null, .null, .null, .null, .null, .null, .null, .null, .null, .null])), (q17, .inl (c17, 8, .inl (fun _ => 0))), (q25, .inl (c25, 8, .inl (fun _ => 0))), (q33, .inl (c33, 8, .inl (fun _ => 0))), (q41, .inl (c41, 8, .inl (fun _ => 0))), (q49, .inl (c49, 8, .inl (fun _ => 0)))] := hD
  refine lv_aload_n hx hb dM_init_54 rfl (lv_at hl 0 rfl) ?_
  refine lv_bipush (v := 8) hx hb dM_init_55 (by decide) ?_
  refine va_newa (atype := .int) (N' := 8) (a0 := (8, .inl (fun _ => 0))) (ty := .int) hx hb (hts _ (List.mem_cons_of_mem _ wd_87)) rfl hK hP hD hS hA (fun _ => rfl) (by decide) (by decide) (by decide) (Nat.le_of_ble_eq_true rfl) (Nat.le_of_ble_eq_true rfl) dM_init_57 (fun q57 c57 H hK hP hD hS => ?_)
  have hP : va_P (dC, dI) vwCl [(h0, .inr (3, [.int 0, .int 0, .int 0, .int 0, .ref q17, .ref q25, .ref q33, .ref q41, .ref q49, .null, .null, .null, .null, .null, .null, .null, .null, .null, .null, .null, .null, .null, .null])), (q17, .inl (c17, 8, .inl (fun _ => 0))), (q25, .inl (c25, 8, .inl (fun _ => 0))), (q33, .inl (c33, 8, .inl (fun _ => 0))), (q41, .inl (c41, 8, .inl (fun _ => 0))), (q49, .inl (c49, 8, .inl (fun _ => 0))), (q57, .inl (c57, 8, .inl (fun _ => 0)))] H := hP
  have hD : va_D A [(h0, .inr (3, [.int 0, .int 0, .int 0, .int 0, .ref q17, .ref q25, .ref q33, .ref q41, .ref q49, .null, .null, .null, .null, .null, .null, .null, .null, .null, .null, .null, .null, .null, .null])), (q17, .inl (c17, 8, .inl (fun _ => 0))), (q25, .inl (c25, 8, .inl (fun _ => 0))), (q33, .inl (c33, 8, .inl (fun _ => 0))), (q41, .inl (c41, 8, .inl (fun _ => 0))), (q49, .inl (c49, 8, .inl (fun _ => 0))), (q57, .inl (c57, 8, .inl (fun _ => 0)))] := hD
  have hK : va_K (dC, dI) vwCl [(c17, .int), (c25, .int), (c33, .int), (c41, .int), (c49, .int), (c57, .int)] s := hK
  refine W.widen (k := 6) (n := 48) (by omega) (by omega) ?_
  refine va_putF (D := (dC, dI)) (ci := 3) (v := .ref q57) (ty := .array .int) (C := R_M) (T := T_M) (N := 23) hx hb hts uw_M ty_M ty_M_ok nm_M hown hK hP hD hS 0 rfl rfl 9 (by decide) (hts _ (List.mem_cons_of_mem _ wd_340)) (fun _ h9 => h9) rfl hin rfl (by decide +kernel) rfl rfl (Nat.le_of_ble_eq_true rfl) dM_init_59 (fun H locs hP hD hS => ?_)
  have hP : va_P (dC, dI) vwCl [(h0, .inr (3, [.int 0, .int 0, .int 0, .int 0, .ref q17, .ref q25, .ref q33, .ref q41, .ref q49, .ref q57, .null, .null, .null, .null, .null, .null, .null, .null, .null, .null, .null, .null, .null])), (q17, .inl (c17, 8, .inl (fun _ => 0))), (q25, .inl (c25, 8, .inl (fun _ => 0))), (q33, .inl (c33, 8, .inl (fun _ => 0))), (q41, .inl (c41, 8, .inl (fun _ => 0))), (q49, .inl (c49, 8, .inl (fun _ => 0))), (q57, .inl (c57, 8, .inl (fun _ => 0)))] H := hP
  have hD : va_D A [(h0, .inr (3, [.int 0, .int 0, .int 0, .int 0, .ref q17, .ref q25, .ref q33, .ref q41, .ref q49, .ref q57, .null, .null, .null, .null, .null, .null, .null, .null, .null, .null, .null, .null, .null])), (q17, .inl (c17, 8, .inl (fun _ => 0))), (q25, .inl (c25, 8, .inl (fun _ => 0))), (q33, .inl (c33, 8, .inl (fun _ => 0))), (q41, .inl (c41, 8, .inl (fun _ => 0))), (q49, .inl (c49, 8, .inl (fun _ => 0))), (q57, .inl (c57, 8, .inl (fun _ => 0)))] := hD
  refine lv_aload_n hx hb dM_init_62 rfl (lv_at hl 0 rfl) ?_
  refine lv_bipush (v := 8) hx hb dM_init_63 (by decide) ?_
  refine va_newa (atype := .int) (N' := 8) (a0 := (8, .inl (fun _ => 0))) (ty := .int) hx hb (hts _ (List.mem_cons_of_mem _ wd_87)) rfl hK hP hD hS hA (fun _ => rfl) (by decide) (by decide) (by decide) (Nat.le_of_ble_eq_true rfl) (Nat.le_of_ble_eq_true rfl) dM_init_65 (fun q65 c65 H hK hP hD hS => ?_)
  have hP : va_P (dC, dI) vwCl [(h0, .inr (3, [.int 0, .int 0, .int 0, .int 0, .ref q17, .ref q25, .ref q33, .ref q41, .ref q49, .ref q57, .null, .null, .null, .null, .null, .null, .null, .null, .null, .null, .null, .null, .null])), (q17, .inl (c17, 8, .inl (fun _ => 0))), (q25, .inl (c25, 8, .inl (fun _ => 0))), (q33, .inl (c33, 8, .inl (fun _ => 0))), (q41, .inl (c41, 8, .inl (fun _ => 0))), (q49, .inl (c49, 8, .inl (fun _ => 0))), (q57, .inl (c57, 8, .inl (fun _ => 0))), (q65, .inl (c65, 8, .inl (fun _ => 0)))] H := hP
  have hD : va_D A [(h0, .inr (3, [.int 0, .int 0, .int 0, .int 0, .ref q17, .ref q25, .ref q33, .ref q41, .ref q49, .ref q57, .null, .null, .null, .null, .null, .null, .null, .null, .null, .null, .null, .null, .null])), (q17, .inl (c17, 8, .inl (fun _ => 0))), (q25, .inl (c25, 8, .inl (fun _ => 0))), (q33, .inl (c33, 8, .inl (fun _ => 0))), (q41, .inl (c41, 8, .inl (fun _ => 0))), (q49, .inl (c49, 8, .inl (fun _ => 0))), (q57, .inl (c57, 8, .inl (fun _ => 0))), (q65, .inl (c65, 8, .inl (fun _ => 0)))] := hD
  have hK : va_K (dC, dI) vwCl [(c17, .int), (c25, .int), (c33, .int), (c41, .int), (c49, .int), (c57, .int), (c65, .int)] s := hK
  refine W.widen (k := 7) (n := 56) (by omega) (by omega) ?_
  refine va_putF (D := (dC, dI)) (ci := 3) (v := .ref q65) (ty := .array .int) (C := R_M) (T := T_M) (N := 23) hx hb hts uw_M ty_M ty_M_ok nm_M hown hK hP hD hS 0 rfl rfl 10 (by decide) (hts _ (List.mem_cons_of_mem _ wd_341)) (fun _ h9 => h9) rfl hin rfl (by decide +kernel) rfl rfl (Nat.le_of_ble_eq_true rfl) dM_init_67 (fun H locs hP hD hS => ?_)
  have hP : va_P (dC, dI) vwCl [(h0, .inr (3, [.int 0, .int 0, .int 0, .int 0, .ref q17, .ref q25, .ref q33, .ref q41, .ref q49, .ref q57, .ref q65, .null, .null, .null, .null, .null, .null, .null, .null, .null, .null, .null, .null])), (q17, .inl (c17, 8, .inl (fun _ => 0))), (q25, .inl (c25, 8, .inl (fun _ => 0))), (q33, .inl (c33, 8, .inl (fun _ => 0))), (q41, .inl (c41, 8, .inl (fun _ => 0))), (q49, .inl (c49, 8, .inl (fun _ => 0))), (q57, .inl (c57, 8, .inl (fun _ => 0))), (q65, .inl (c65, 8, .inl (fun _ => 0)))] H := hP
  have hD : va_D A [(h0, .inr (3, [.int 0, .int 0, .int 0, .int 0, .ref q17, .ref q25, .ref q33, .ref q41, .ref q49, .ref q57, .ref q65, .null, .null, .null, .null, .null, .null, .null, .null, .null, .null, .null, .null])), (q17, .inl (c17, 8, .inl (fun _ => 0))), (q25, .inl (c25, 8, .inl (fun _ => 0))), (q33, .inl (c33, 8, .inl (fun _ => 0))), (q41, .inl (c41, 8, .inl (fun _ => 0))), (q49, .inl (c49, 8, .inl (fun _ => 0))), (q57, .inl (c57, 8, .inl (fun _ => 0))), (q65, .inl (c65, 8, .inl (fun _ => 0)))] := hD
  refine lv_aload_n hx hb dM_init_70 rfl (lv_at hl 0 rfl) ?_
  refine lv_bipush (v := 8) hx hb dM_init_71 (by decide) ?_
  refine va_newa (atype := .int) (N' := 8) (a0 := (8, .inl (fun _ => 0))) (ty := .int) hx hb (hts _ (List.mem_cons_of_mem _ wd_87)) rfl hK hP hD hS hA (fun _ => rfl) (by decide) (by decide) (by decide) (Nat.le_of_ble_eq_true rfl) (Nat.le_of_ble_eq_true rfl) dM_init_73 (fun q73 c73 H hK hP hD hS => ?_)
  have hP : va_P (dC, dI) vwCl [(h0, .inr (3, [.int 0, .int 0, .int 0, .int 0, .ref q17, .ref q25, .ref q33, .ref q41, .ref q49, .ref q57, .ref q65, .null, .null, .null, .null, .null, .null, .null, .null, .null, .null, .null, .null])), (q17, .inl (c17, 8, .inl (fun _ => 0))), (q25, .inl (c25, 8, .inl (fun _ => 0))), (q33, .inl (c33, 8, .inl (fun _ => 0))), (q41, .inl (c41, 8, .inl (fun _ => 0))), (q49, .inl (c49, 8, .inl (fun _ => 0))), (q57, .inl (c57, 8, .inl (fun _ => 0))), (q65, .inl (c65, 8, .inl (fun _ => 0))), (q73, .inl (c73, 8, .inl (fun _ => 0)))] H := hP
  have hD : va_D A [(h0, .inr (3, [.int 0, .int 0, .int 0, .int 0, .ref q17, .ref q25, .ref q33, .ref q41, .ref q49, .ref q57, .ref q65, .null, .null, .null, .null, .null, .null, .null, .null, .null, .null, .null, .null])), (q17, .inl (c17, 8, .inl (fun _ => 0))), (q25, .inl (c25, 8, .inl (fun _ => 0))), (q33, .inl (c33, 8, .inl (fun _ => 0))), (q41, .inl (c41, 8, .inl (fun _ => 0))), (q49, .inl (c49, 8, .inl (fun _ => 0))), (q57, .inl (c57, 8, .inl (fun _ => 0))), (q65, .inl (c65, 8, .inl (fun _ => 0))), (q73, .inl (c73, 8, .inl (fun _ => 0)))] := hD
  have hK : va_K (dC, dI) vwCl [(c17, .int), (c25, .int), (c33, .int), (c41, .int), (c49, .int), (c57, .int), (c65, .int), (c73, .int)] s := hK
  refine W.widen (k := 8) (n := 64) (by omega) (by omega) ?_
  refine va_putF (D := (dC, dI)) (ci := 3) (v := .ref q73) (ty := .array .int) (C := R_M) (T := T_M) (N := 23) hx hb hts uw_M ty_M ty_M_ok nm_M hown hK hP hD hS 0 rfl rfl 11 (by decide) (hts _ (List.mem_cons_of_mem _ wd_342)) (fun _ h9 => h9) rfl hin rfl (by decide +kernel) rfl rfl (Nat.le_of_ble_eq_true rfl) dM_init_75 (fun H locs hP hD hS => ?_)
  have hP : va_P (dC, dI) vwCl [(h0, .inr (3, [.int 0, .int 0, .int 0, .int 0, .ref q17, .ref q25, .ref q33, .ref q41, .ref q49, .ref q57, .ref q65, .ref q73, .null, .null, .null, .null, .null, .null, .null, .null, .null, .null, .null])), (q17, .inl (c17, 8, .inl (fun _ => 0))), (q25, .inl (c25, 8, .inl (fun _ => 0))), (q33, .inl (c33, 8, .inl (fun _ => 0))), (q41, .inl (c41, 8, .inl (fun _ => 0))), (q49, .inl (c49, 8, .inl (fun _ => 0))), (q57, .inl (c57, 8, .inl (fun _ => 0))), (q65, .inl (c65, 8, .inl (fun _ => 0))), (q73, .inl (c73, 8, .inl (fun _ => 0)))] H := hP
  have hD : va_D A [(h0, .inr (3, [.int 0, .int 0, .int 0, .int 0, .ref q17, .ref q25, .ref q33, .ref q41, .ref q49, .ref q57, .ref q65, .ref q73, .null, .null, .null, .null, .null, .null, .null, .null, .null, .null, .null])), (q17, .inl (c17, 8, .inl (fun _ => 0))), (q25, .inl (c25, 8, .inl (fun _ => 0))), (q33, .inl (c33, 8, .inl (fun _ => 0))), (q41, .inl (c41, 8, .inl (fun _ => 0))), (q49, .inl (c49, 8, .inl (fun _ => 0))), (q57, .inl (c57, 8, .inl (fun _ => 0))), (q65, .inl (c65, 8, .inl (fun _ => 0))), (q73, .inl (c73, 8, .inl (fun _ => 0)))] := hD
  refine lv_aload_n hx hb dM_init_78 rfl (lv_at hl 0 rfl) ?_
  refine lv_bipush (v := 8) hx hb dM_init_79 (by decide) ?_
  refine va_newa (atype := .int) (N' := 8) (a0 := (8, .inl (fun _ => 0))) (ty := .int) hx hb (hts _ (List.mem_cons_of_mem _ wd_87)) rfl hK hP hD hS hA (fun _ => rfl) (by decide) (by decide) (by decide) (Nat.le_of_ble_eq_true rfl) (Nat.le_of_ble_eq_true rfl) dM_init_81 (fun q81 c81 H hK hP hD hS => ?_)
  have hP : va_P (dC, dI) vwCl [(h0, .inr (3, [.int 0, .int 0, .int 0, .int 0, .ref q17, .ref q25, .ref q33, .ref q41, .ref q49, .ref q57, .ref q65, .ref q73, .null, .null, .null, .null, .null, .null, .null, .null, .null, .null, .null])), (q17, .inl (c17, 8, .inl (fun _ => 0))), (q25, .inl (c25, 8, .inl (fun _ => 0))), (q33, .inl (c33, 8, .inl (fun _ => 0))), (q41, .inl (c41, 8, .inl (fun _ => 0))), (q49, .inl (c49, 8, .inl (fun _ => 0))), (q57, .inl (c57, 8, .inl (fun _ => 0))), (q65, .inl (c65, 8, .inl (fun _ => 0))), (q73, .inl (c73, 8, .inl (fun _ => 0))), (q81, .inl (c81, 8, .inl (fun _ => 0)))] H := hP
  have hD : va_D A [(h0, .inr (3, [.int 0, .int 0, .int 0, .int 0, .ref q17, .ref q25, .ref q33, .ref q41, .ref q49, .ref q57, .ref q65, .ref q73, .null, .null, .null, .null, .null, .null, .null, .null, .null, .null, .null])), (q17, .inl (c17, 8, .inl (fun _ => 0))), (q25, .inl (c25, 8, .inl (fun _ => 0))), (q33, .inl (c33, 8, .inl (fun _ => 0))), (q41, .inl (c41, 8, .inl (fun _ => 0))), (q49, .inl (c49, 8, .inl (fun _ => 0))), (q57, .inl (c57, 8, .inl (fun _ => 0))), (q65, .inl (c65, 8, .inl (fun _ => 0))), (q73, .inl (c73, 8, .inl (fun _ => 0))), (q81, .inl (c81, 8, .inl (fun _ => 0)))] := hD
  have hK : va_K (dC, dI) vwCl [(c17, .int), (c25, .int), (c33, .int), (c41, .int), (c49, .int), (c57, .int), (c65, .int), (c73, .int), (c81, .int)] s := hK
  refine W.widen (k := 9) (n := 72) (by omega) (by omega) ?_
  refine va_putF (D := (dC, dI)) (ci := 3) (v := .ref q81) (ty := .array .int) (C := R_M) (T := T_M) (N := 23) hx hb hts uw_M ty_M ty_M_ok nm_M hown hK hP hD hS 0 rfl rfl 12 (by decide) (hts _ (List.mem_cons_of_mem _ wd_343)) (fun _ h9 => h9) rfl hin rfl (by decide +kernel) rfl rfl (Nat.le_of_ble_eq_true rfl) dM_init_83 (fun H locs hP hD hS => ?_)
  have hP : va_P (dC, dI) vwCl [(h0, .inr (3, [.int 0, .int 0, .int 0, .int 0, .ref q17, .ref q25, .ref q33, .ref q41, .ref q49, .ref q57, .ref q65, .ref q73, .ref q81, .null, .null, .null, .null, .null, .null, .null, .null, .null, .null])), (q17, .inl (c17, 8, .inl (fun _ => 0))), (q25, .inl (c25, 8, .inl (fun _ => 0))), (q33, .inl (c33, 8, .inl (fun _ => 0))), (q41, .inl (c41, 8, .inl (fun _ => 0))), (q49, .inl (c49, 8, .inl (fun _ => 0))), (q57, .inl (c57, 8, .inl (fun _ => 0))), (q65, .inl (c65, 8, .inl (fun _ => 0))), (q73, .inl (c73, 8, .inl (fun _ => 0))), (q81, .inl (c81, 8, .inl (fun _ => 0)))] H := hP
  have hD : va_D A [(h0, .inr (3, [.int 0, .int 0, .int 0, .int 0, .ref q17, .ref q25, .ref q33, .ref q41, .ref q49, .ref q57, .ref q65, .ref q73, .ref q81, .null, .null, .null, .null, .null, .null, .null, .null, .null, .null])), (q17, .inl (c17, 8, .inl (fun _ => 0))), (q25, .inl (c25, 8, .inl (fun _ => 0))), (q33, .inl (c33, 8, .inl (fun _ => 0))), (q41, .inl (c41, 8, .inl (fun _ => 0))), (q49, .inl (c49, 8, .inl (fun _ => 0))), (q57, .inl (c57, 8, .inl (fun _ => 0))), (q65, .inl (c65, 8, .inl (fun _ => 0))), (q73, .inl (c73, 8, .inl (fun _ => 0))), (q81, .inl (c81, 8, .inl (fun _ => 0)))] := hD
  refine lv_aload_n hx hb dM_init_86 rfl (lv_at hl 0 rfl) ?_
  refine lv_bipush (v := 8) hx hb dM_init_87 (by decide) ?_
  refine va_newa (atype := .int) (N' := 8) (a0 := (8, .inl (fun _ => 0))) (ty := .int) hx hb (hts _ (List.mem_cons_of_mem _ wd_87)) rfl hK hP hD hS hA (fun _ => rfl) (by decide) (by decide) (by decide) (Nat.le_of_ble_eq_true rfl) (Nat.le_of_ble_eq_true rfl) dM_init_89 (fun q89 c89 H hK hP hD hS => ?_)
  have hP : va_P (dC, dI) vwCl [(h0, .inr (3, [.int 0, .int 0, .int 0, .int 0, .ref q17, .ref q25, .ref q33, .ref q41, .ref q49, .ref q57, .ref q65, .ref q73, .ref q81, .null, .null, .null, .null, .null, .null, .null, .null, .null, .null])), (q17, .inl (c17, 8, .inl (fun _ => 0))), (q25, .inl (c25, 8, .inl (fun _ => 0))), (q33, .inl (c33, 8, .inl (fun _ => 0))), (q41, .inl (c41, 8, .inl (fun _ => 0))), (q49, .inl (c49, 8, .inl (fun _ => 0))), (q57, .inl (c57, 8, .inl (fun _ => 0))), (q65, .inl (c65, 8, .inl (fun _ => 0))), (q73, .inl (c73, 8, .inl (fun _ => 0))), (q81, .inl (c81, 8, .inl (fun _ => 0))), (q89, .inl (c89, 8, .inl (fun _ => 0)))] H := hP
  have hD : va_D A [(h0, .inr (3, [.int 0, .int 0, .int 0, .int 0, .ref q17, .ref q25, .ref q33, .ref q41, .ref q49, .ref q57, .ref q65, .ref q73, .ref q81, .null, .null, .null, .null, .null, .null, .null, .null, .null, .null])), (q17, .inl (c17, 8, .inl (fun _ => 0))), (q25, .inl (c25, 8, .inl (fun _ => 0))), (q33, .inl (c33, 8, .inl (fun _ => 0))), (q41, .inl (c41, 8, .inl (fun _ => 0))), (q49, .inl (c49, 8, .inl (fun _ => 0))), (q57, .inl (c57, 8, .inl (fun _ => 0))), (q65, .inl (c65, 8, .inl (fun _ => 0))), (q73, .inl (c73, 8, .inl (fun _ => 0))), (q81, .inl (c81, 8, .inl (fun _ => 0))), (q89, .inl (c89, 8, .inl (fun _ => 0)))] := hD
  have hK : va_K (dC, dI) vwCl [(c17, .int), (c25, .int), (c33, .int), (c41, .int), (c49, .int), (c57, .int), (c65, .int), (c73, .int), (c81, .int), (c89, .int)] s := hK
  refine W.widen (k := 10) (n := 80) (by omega) (by omega) ?_
  refine va_putF (D := (dC, dI)) (ci := 3) (v := .ref q89) (ty := .array .int) (C := R_M) (T := T_M) (N := 23) hx hb hts uw_M ty_M ty_M_ok nm_M hown hK hP hD hS 0 rfl rfl 13 (by decide) (hts _ (List.mem_cons_of_mem _ wd_344)) (fun _ h9 => h9) rfl hin rfl (by decide +kernel) rfl rfl (Nat.le_of_ble_eq_true rfl) dM_init_91 (fun H locs hP hD hS => ?_)
  have hP : va_P (dC, dI) vwCl [(h0, .inr (3, [.int 0, .int 0, .int 0, .int 0, .ref q17, .ref q25, .ref q33, .ref q41, .ref q49, .ref q57, .ref q65, .ref q73, .ref q81, .ref q89, .null, .null, .null, .null, .null, .null, .null, .null, .null])), (q17, .inl (c17, 8, .inl (fun _ => 0))), (q25, .inl (c25, 8, .inl (fun _ => 0))), (q33, .inl (c33, 8, .inl (fun _ => 0))), (q41, .inl (c41, 8, .inl (fun _ => 0))), (q49, .inl (c49, 8, .inl (fun _ => 0))), (q57, .inl (c57, 8, .inl (fun _ => 0))), (q65, .inl (c65, 8, .inl (fun _ => 0))), (q73, .inl (c73, 8, .inl (fun _ => 0))), (q81, .inl (c81, 8, .inl (fun _ => 0))), (q89, .inl (c89, 8, .inl (fun _ => 0)))] H := hP
  have hD : va_D A [(h0, .inr (3, [.int 0, .int 0, .int 0, .int 0, .ref q17, .ref q25, .ref q33, .ref q41, .ref q49, .ref q57, .ref q65, .ref q73, .ref q81, .ref q89, .null, .null, .null, .null, .null, .null, .null, .null, .null])), (q17, .inl (c17, 8, .inl (fun _ => 0))), (q25, .inl (c25, 8, .inl (fun _ => 0))), (q33, .inl (c33, 8, .inl (fun _ => 0))), (q41, .inl (c41, 8, .inl (fun _ => 0))), (q49, .inl (c49, 8, .inl (fun _ => 0))), (q57, .inl (c57, 8, .inl (fun _ => 0))), (q65, .inl (c65, 8, .inl (fun _ => 0))), (q73, .inl (c73, 8, .inl (fun _ => 0))), (q81, .inl (c81, 8, .inl (fun _ => 0))), (q89, .inl (c89, 8, .inl (fun _ => 0)))] := hD
  refine lv_aload_n hx hb dM_init_94 rfl (lv_at hl 0 rfl) ?_
  refine lv_bipush (v := 8) hx hb dM_init_95 (by decide) ?_
  refine va_newa (atype := .int) (N' := 8) (a0 := (8, .inl (fun _ => 0))) (ty := .int) hx hb (hts _ (List.mem_cons_of_mem _ wd_87)) rfl hK hP hD hS hA (fun _ => rfl) (by decide) (by decide) (by decide) (Nat.le_of_ble_eq_true rfl) (Nat.le_of_ble_eq_true rfl) dM_init_97 (fun q97 c97 H hK hP hD hS => ?_)
  have hP : va_P (dC, dI) vwCl [(h0, .inr (3, [.int 0, .int 0, .int 0, .int 0, .ref q17, .ref q25, .ref q33, .ref q41, .ref q49, .ref q57, .ref q65, .ref q73, .ref q81, .ref q89, .null, .null, .null, .null, .null, .null, .null, .null, .null])), (q17, .inl (c17, 8, .inl (fun _ => 0))), (q25, .inl (c25, 8, .inl (fun _ => 0))), (q33, .inl (c33, 8, .inl (fun _ => 0))), (q41, .inl (c41, 8, .inl (fun _ => 0))), (q49, .inl (c49, 8, .inl (fun _ => 0))), (q57, .inl (c57, 8, .inl (fun _ => 0))), (q65, .inl (c65, 8, .inl (fun _ => 0))), (q73, .inl (c73, 8, .inl (fun _ => 0))), (q81, .inl (c81, 8, .inl (fun _ => 0))), (q89, .inl (c89, 8, .inl (fun _ => 0))), (q97, .inl (c97, 8, .inl (fun _ => 0)))] H := hP
  have hD : va_D A [(h0, .inr (3, [.int 0, .int 0, .int 0, .int 0, .ref q17, .ref q25, .ref q33, .ref q41, .ref q49, .ref q57, .ref q65, .ref q73, .ref q81, .ref q89, .null, .null, .null, .null, .null, .null, .null, .null, .null])), (q17, .inl (c17, 8, .inl (fun _ => 0))), (q25, .inl (c25, 8, .inl (fun _ => 0))), (q33, .inl (c33, 8, .inl (fun _ => 0))), (q41, .inl (c41, 8, .inl (fun _ => 0))), (q49, .inl (c49, 8, .inl (fun _ => 0))), (q57, .inl (c57, 8, .inl (fun _ => 0))), (q65, .inl (c65, 8, .inl (fun _ => 0))), (q73, .inl (c73, 8, .inl (fun _ => 0))), (q81, .inl (c81, 8, .inl (fun _ => 0))), (q89, .inl (c89, 8, .inl (fun _ => 0))), (q97, .inl (c97, 8, .inl (fun _ => 0)))] := hD
  have hK : va_K (dC, dI) vwCl [(c17, .int), (c25, .int), (c33, .int), (c41, .int), (c49, .int), (c57, .int), (c65, .int), (c73, .int), (c81, .int), (c89, .int), (c97, .int)] s := hK
  refine W.widen (k := 11) (n := 88) (by omega) (by omega) ?_
  refine va_putF (D := (dC, dI)) (ci := 3) (v := .ref q97) (ty := .array .int) (C := R_M) (T := T_M) (N := 23) hx hb hts uw_M ty_M ty_M_ok nm_M hown hK hP hD hS 0 rfl rfl 14 (by decide) (hts _ (List.mem_cons_of_mem _ wd_345)) (fun _ h9 => h9) rfl hin rfl (by decide +kernel) rfl rfl (Nat.le_of_ble_eq_true rfl) dM_init_99 (fun H locs hP hD hS => ?_)
  have hP : va_P (dC, dI) vwCl [(h0, .inr (3, [.int 0, .int 0, .int 0, .int 0, .ref q17, .ref q25, .ref q33, .ref q41, .ref q49, .ref q57, .ref q65, .ref q73, .ref q81, .ref q89, .ref q97, .null, .null, .null, .null, .null, .null, .null, .null])), (q17, .inl (c17, 8, .inl (fun _ => 0))), (q25, .inl (c25, 8, .inl (fun _ => 0))), (q33, .inl (c33, 8, .inl (fun _ => 0))), (q41, .inl (c41, 8, .inl (fun _ => 0))), (q49, .inl (c49, 8, .inl (fun _ => 0))), (q57, .inl (c57, 8, .inl (fun _ => 0))), (q65, .inl (c65, 8, .inl (fun _ => 0))), (q73, .inl (c73, 8, .inl (fun _ => 0))), (q81, .inl (c81, 8, .inl (fun _ => 0))), (q89, .inl (c89, 8, .inl (fun _ => 0))), (q97, .inl (c97, 8, .inl (fun _ => 0)))] H := hP
  have hD : va_D A [(h0, .inr (3, [.int 0, .int 0, .int 0, .int 0, .ref q17, .ref q25, .ref q33, .ref q41, .ref q49, .ref q57, .ref q65, .ref q73, .ref q81, .ref q89, .ref q97, .null, .null, .null, .null, .null, .null, .null, .null])), (q17, .inl (c17, 8, .inl (fun _ => 0))), (q25, .inl (c25, 8, .inl (fun _ => 0))), (q33, .inl (c33, 8, .inl (fun _ => 0))), (q41, .inl (c41, 8, .inl (fun _ => 0))), (q49, .inl (c49, 8, .inl (fun _ => 0))), (q57, .inl (c57, 8, .inl (fun _ => 0))), (q65, .inl (c65, 8, .inl (fun _ => 0))), (q73, .inl (c73, 8, .inl (fun _ => 0))), (q81, .inl (c81, 8, .inl (fun _ => 0))), (q89, .inl (c89, 8, .inl (fun _ => 0))), (q97, .inl (c97, 8, .inl (fun _ => 0)))] := hD
  refine lv_aload_n hx hb dM_init_102 rfl (lv_at hl 0 rfl) ?_
  refine lv_bipush (v := 8) hx hb dM_init_103 (by decide) ?_
  refine va_newa (atype := .boolean) (N' := 8) (a0 := (8, .inl (fun _ => 0))) (ty := .boolean) hx hb (hts _ (List.mem_cons_of_mem _ wd_401)) rfl hK hP hD hS hA (fun _ => rfl) (by decide) (by decide) (by decide) (Nat.le_of_ble_eq_true rfl) (Nat.le_of_ble_eq_true rfl) dM_init_105 (fun q105 c105 H hK hP hD hS => ?_)
  have hP : va_P (dC, dI) vwCl [(h0, .inr (3, [.int 0, .int 0, .int 0, .int 0, .ref q17, .ref q25, .ref q33, .ref q41, .ref q49, .ref q57, .ref q65, .ref q73, .ref q81, .ref q89, .ref q97, .null, .null, .null, .null, .null, .null, .null, .null])), (q17, .inl (c17, 8, .inl (fun _ => 0))), (q25, .inl (c25, 8, .inl (fun _ => 0))), (q33, .inl (c33, 8, .inl (fun _ => 0))), (q41, .inl (c41, 8, .inl (fun _ => 0))), (q49, .inl (c49, 8, .inl (fun _ => 0))), (q57, .inl (c57, 8, .inl (fun _ => 0))), (q65, .inl (c65, 8, .inl (fun _ => 0))), (q73, .inl (c73, 8, .inl (fun _ => 0))), (q81, .inl (c81, 8, .inl (fun _ => 0))), (q89, .inl (c89, 8, .inl (fun _ => 0))), (q97, .inl (c97, 8, .inl (fun _ => 0))), (q105, .inl (c105, 8, .inl (fun _ => 0)))] H := hP
  have hD : va_D A [(h0, .inr (3, [.int 0, .int 0, .int 0, .int 0, .ref q17, .ref q25, .ref q33, .ref q41, .ref q49, .ref q57, .ref q65, .ref q73, .ref q81, .ref q89, .ref q97, .null, .null, .null, .null, .null, .null, .null, .null])), (q17, .inl (c17, 8, .inl (fun _ => 0))), (q25, .inl (c25, 8, .inl (fun _ => 0))), (q33, .inl (c33, 8, .inl (fun _ => 0))), (q41, .inl (c41, 8, .inl (fun _ => 0))), (q49, .inl (c49, 8, .inl (fun _ => 0))), (q57, .inl (c57, 8, .inl (fun _ => 0))), (q65, .inl (c65, 8, .inl (fun _ => 0))), (q73, .inl (c73, 8, .inl (fun _ => 0))), (q81, .inl (c81, 8, .inl (fun _ => 0))), (q89, .inl (c89, 8, .inl (fun _ => 0))), (q97, .inl (c97, 8, .inl (fun _ => 0))), (q105, .inl (c105, 8, .inl (fun _ => 0)))] := hD
  have hK : va_K (dC, dI) vwCl [(c17, .int), (c25, .int), (c33, .int), (c41, .int), (c49, .int), (c57, .int), (c65, .int), (c73, .int), (c81, .int), (c89, .int), (c97, .int), (c105, .boolean)] s := hK
  refine W.widen (k := 12) (n := 96) (by omega) (by omega) ?_
  refine va_putF (D := (dC, dI)) (ci := 3) (v := .ref q105) (ty := .array .boolean) (C := R_M) (T := T_M) (N := 23) hx hb hts uw_M ty_M ty_M_ok nm_M hown hK hP hD hS 0 rfl rfl 15 (by decide) (hts _ (List.mem_cons_of_mem _ wd_346)) (fun _ h9 => h9) rfl hin rfl (by decide +kernel) rfl rfl (Nat.le_of_ble_eq_true rfl) dM_init_107 (fun H locs hP hD hS => ?_)
  have hP : va_P (dC, dI) vwCl [(h0, .inr (3, [.int 0, .int 0, .int 0, .int 0, .ref q17, .ref q25, .ref q33, .ref q41, .ref q49, .ref q57, .ref q65, .ref q73, .ref q81, .ref q89, .ref q97, .ref q105, .null, .null, .null, .null, .null, .null, .null])), (q17, .inl (c17, 8, .inl (fun _ => 0))), (q25, .inl (c25, 8, .inl (fun _ => 0))), (q33, .inl (c33, 8, .inl (fun _ => 0))), (q41, .inl (c41, 8, .inl (fun _ => 0))), (q49, .inl (c49, 8, .inl (fun _ => 0))), (q57, .inl (c57, 8, .inl (fun _ => 0))), (q65, .inl (c65, 8, .inl (fun _ => 0))), (q73, .inl (c73, 8, .inl (fun _ => 0))), (q81, .inl (c81, 8, .inl (fun _ => 0))), (q89, .inl (c89, 8, .inl (fun _ => 0))), (q97, .inl (c97, 8, .inl (fun _ => 0))), (q105, .inl (c105, 8, .inl (fun _ => 0)))] H := hP
  have hD : va_D A [(h0, .inr (3, [.int 0, .int 0, .int 0, .int 0, .ref q17, .ref q25, .ref q33, .ref q41, .ref q49, .ref q57, .ref q65, .ref q73, .ref q81, .ref q89, .ref q97, .ref q105, .null, .null, .null, .null, .null, .null, .null])), (q17, .inl (c17, 8, .inl (fun _ => 0))), (q25, .inl (c25, 8, .inl (fun _ => 0))), (q33, .inl (c33, 8, .inl (fun _ => 0))), (q41, .inl (c41, 8, .inl (fun _ => 0))), (q49, .inl (c49, 8, .inl (fun _ => 0))), (q57, .inl (c57, 8, .inl (fun _ => 0))), (q65, .inl (c65, 8, .inl (fun _ => 0))), (q73, .inl (c73, 8, .inl (fun _ => 0))), (q81, .inl (c81, 8, .inl (fun _ => 0))), (q89, .inl (c89, 8, .inl (fun _ => 0))), (q97, .inl (c97, 8, .inl (fun _ => 0))), (q105, .inl (c105, 8, .inl (fun _ => 0)))] := hD
  refine lv_aload_n hx hb dM_init_110 rfl (lv_at hl 0 rfl) ?_
  refine lv_bipush (v := 8) hx hb dM_init_111 (by decide) ?_
  refine va_newa (atype := .boolean) (N' := 8) (a0 := (8, .inl (fun _ => 0))) (ty := .boolean) hx hb (hts _ (List.mem_cons_of_mem _ wd_401)) rfl hK hP hD hS hA (fun _ => rfl) (by decide) (by decide) (by decide) (Nat.le_of_ble_eq_true rfl) (Nat.le_of_ble_eq_true rfl) dM_init_113 (fun q113 c113 H hK hP hD hS => ?_)
  have hP : va_P (dC, dI) vwCl [(h0, .inr (3, [.int 0, .int 0, .int 0, .int 0, .ref q17, .ref q25, .ref q33, .ref q41, .ref q49, .ref q57, .ref q65, .ref q73, .ref q81, .ref q89, .ref q97, .ref q105, .null, .null, .null, .null, .null, .null, .null])), (q17, .inl (c17, 8, .inl (fun _ => 0))), (q25, .inl (c25, 8, .inl (fun _ => 0))), (q33, .inl (c33, 8, .inl (fun _ => 0))), (q41, .inl (c41, 8, .inl (fun _ => 0))), (q49, .inl (c49, 8, .inl (fun _ => 0))), (q57, .inl (c57, 8, .inl (fun _ => 0))), (q65, .inl (c65, 8, .inl (fun _ => 0))), (q73, .inl (c73, 8, .inl (fun _ => 0))), (q81, .inl (c81, 8, .inl (fun _ => 0))), (q89, .inl (c89, 8, .inl (fun _ => 0))), (q97, .inl (c97, 8, .inl (fun _ => 0))), (q105, .inl (c105, 8, .inl (fun _ => 0))), (q113, .inl (c113, 8, .inl (fun _ => 0)))] H := hP
  have hD : va_D A [(h0, .inr (3, [.int 0, .int 0, .int 0, .int 0, .ref q17, .ref q25, .ref q33, .ref q41, .ref q49, .ref q57, .ref q65, .ref q73, .ref q81, .ref q89, .ref q97, .ref q105, .null, .null, .null, .null, .null, .null, .null])), (q17, .inl (c17, 8, .inl (fun _ => 0))), (q25, .inl (c25, 8, .inl (fun _ => 0))), (q33, .inl (c33, 8, .inl (fun _ => 0))), (q41, .inl (c41, 8, .inl (fun _ => 0))), (q49, .inl (c49, 8, .inl (fun _ => 0))), (q57, .inl (c57, 8, .inl (fun _ => 0))), (q65, .inl (c65, 8, .inl (fun _ => 0))), (q73, .inl (c73, 8, .inl (fun _ => 0))), (q81, .inl (c81, 8, .inl (fun _ => 0))), (q89, .inl (c89, 8, .inl (fun _ => 0))), (q97, .inl (c97, 8, .inl (fun _ => 0))), (q105, .inl (c105, 8, .inl (fun _ => 0))), (q113, .inl (c113, 8, .inl (fun _ => 0)))] := hD
  have hK : va_K (dC, dI) vwCl [(c17, .int), (c25, .int), (c33, .int), (c41, .int), (c49, .int), (c57, .int), (c65, .int), (c73, .int), (c81, .int), (c89, .int), (c97, .int), (c105, .boolean), (c113, .boolean)] s := hK
  refine W.widen (k := 13) (n := 104) (by omega) (by omega) ?_
  refine va_putF (D := (dC, dI)) (ci := 3) (v := .ref q113) (ty := .array .boolean) (C := R_M) (T := T_M) (N := 23) hx hb hts uw_M ty_M ty_M_ok nm_M hown hK hP hD hS 0 rfl rfl 16 (by decide) (hts _ (List.mem_cons_of_mem _ wd_347)) (fun _ h9 => h9) rfl hin rfl (by decide +kernel) rfl rfl (Nat.le_of_ble_eq_true rfl) dM_init_115 (fun H locs hP hD hS => ?_)
  have hP : va_P (dC, dI) vwCl [(h0, .inr (3, [.int 0, .int 0, .int 0, .int 0, .ref q17, .ref q25, .ref q33, .ref q41, .ref q49, .ref q57, .ref q65, .ref q73, .ref q81, .ref q89, .ref q97, .ref q105, .ref q113, .null, .null, .null, .null, .null, .null])), (q17, .inl (c17, 8, .inl (fun _ => 0))), (q25, .inl (c25, 8, .inl (fun _ => 0))), (q33, .inl (c33, 8, .inl (fun _ => 0))), (q41, .inl (c41, 8, .inl (fun _ => 0))), (q49, .inl (c49, 8, .inl (fun _ => 0))), (q57, .inl (c57, 8, .inl (fun _ => 0))), (q65, .inl (c65, 8, .inl (fun _ => 0))), (q73, .inl (c73, 8, .inl (fun _ => 0))), (q81, .inl (c81, 8, .inl (fun _ => 0))), (q89, .inl (c89, 8, .inl (fun _ => 0))), (q97, .inl (c97, 8, .inl (fun _ => 0))), (q105, .inl (c105, 8, .inl (fun _ => 0))), (q113, .inl (c113, 8, .inl (fun _ => 0)))] H := hP
  have hD : va_D A [(h0, .inr (3, [.int 0, .int 0, .int 0, .int 0, .ref q17, .ref q25, .ref q33, .ref q41, .ref q49, .ref q57, .ref q65, .ref q73, .ref q81, .ref q89, .ref q97, .ref q105, .ref q113, .null, .null, .null, .null, .null, .null])), (q17, .inl (c17, 8, .inl (fun _ => 0))), (q25, .inl (c25, 8, .inl (fun _ => 0))), (q33, .inl (c33, 8, .inl (fun _ => 0))), (q41, .inl (c41, 8, .inl (fun _ => 0))), (q49, .inl (c49, 8, .inl (fun _ => 0))), (q57, .inl (c57, 8, .inl (fun _ => 0))), (q65, .inl (c65, 8, .inl (fun _ => 0))), (q73, .inl (c73, 8, .inl (fun _ => 0))), (q81, .inl (c81, 8, .inl (fun _ => 0))), (q89, .inl (c89, 8, .inl (fun _ => 0))), (q97, .inl (c97, 8, .inl (fun _ => 0))), (q105, .inl (c105, 8, .inl (fun _ => 0))), (q113, .inl (c113, 8, .inl (fun _ => 0)))] := hD
  refine lv_aload_n hx hb dM_init_118 rfl (lv_at hl 0 rfl) ?_
  refine lv_iconst (v := 4) hx hb dM_init_119 (by decide) ?_
  refine va_newa (atype := .int) (N' := 4) (a0 := (4, .inl (fun _ => 0))) (ty := .int) hx hb (hts _ (List.mem_cons_of_mem _ wd_87)) rfl hK hP hD hS hA (fun _ => rfl) (by decide) (by decide) (by decide) (Nat.le_of_ble_eq_true rfl) (Nat.le_of_ble_eq_true rfl) dM_init_120 (fun q120 c120 H hK hP hD hS => ?_)
  have hP : va_P (dC, dI) vwCl [(h0, .inr (3, [.int 0, .int 0, .int 0, .int 0, .ref q17, .ref q25, .ref q33, .ref q41, .ref q49, .ref q57, .ref q65, .ref q73, .ref q81, .ref q89, .ref q97, .ref q105, .ref q113, .null, .null, .null, .null, .null, .null])), (q17, .inl (c17, 8, .inl (fun _ => 0))), (q25, .inl (c25, 8, .inl (fun _ => 0))), (q33, .inl (c33, 8, .inl (fun _ => 0))), (q41, .inl (c41, 8, .inl (fun _ => 0))), (q49, .inl (c49, 8, .inl (fun _ => 0))), (q57, .inl (c57, 8, .inl (fun _ => 0))), (q65, .inl (c65, 8, .inl (fun _ => 0))), (q73, .inl (c73, 8, .inl (fun _ => 0))), (q81, .inl (c81, 8, .inl (fun _ => 0))), (q89, .inl (c89, 8, .inl (fun _ => 0))), (q97, .inl (c97, 8, .inl (fun _ => 0))), (q105, .inl (c105, 8, .inl (fun _ => 0))), (q113, .inl (c113, 8, .inl (fun _ => 0))), (q120, .inl (c120, 4, .inl (fun _ => 0)))] H := hP
  have hD : va_D A [(h0, .inr (3, [.int 0, .int 0, .int 0, .int 0, .ref q17, .ref q25, .ref q33, .ref q41, .ref q49, .ref q57, .ref q65, .ref q73, .ref q81, .ref q89, .ref q97, .ref q105, .ref q113, .null, .null, .null, .null, .null, .null])), (q17, .inl (c17, 8, .inl (fun _ => 0))), (q25, .inl (c25, 8, .inl (fun _ => 0))), (q33, .inl (c33, 8, .inl (fun _ => 0))), (q41, .inl (c41, 8, .inl (fun _ => 0))), (q49, .inl (c49, 8, .inl (fun _ => 0))), (q57, .inl (c57, 8, .inl (fun _ => 0))), (q65, .inl (c65, 8, .inl (fun _ => 0))), (q73, .inl (c73, 8, .inl (fun _ => 0))), (q81, .inl (c81, 8, .inl (fun _ => 0))), (q89, .inl (c89, 8, .inl (fun _ => 0))), (q97, .inl (c97, 8, .inl (fun _ => 0))), (q105, .inl (c105, 8, .inl (fun _ => 0))), (q113, .inl (c113, 8, .inl (fun _ => 0))), (q120, .inl (c120, 4, .inl (fun _ => 0)))] := hD
  have hK : va_K (dC, dI) vwCl [(c17, .int), (c25, .int), (c33, .int), (c41, .int), (c49, .int), (c57, .int), (c65, .int), (c73, .int), (c81, .int), (c89, .int), (c97, .int), (c105, .boolean), (c113, .boolean), (c120, .int)] s := hK
  refine W.widen (k := 14) (n := 108) (by omega) (by omega) ?_
  refine va_putF (D := (dC, dI)) (ci := 3) (v := .ref q120) (ty := .array .int) (C := R_M) (T := T_M) (N := 23) hx hb hts uw_M ty_M ty_M_ok nm_M hown hK hP hD hS 0 rfl rfl 17 (by decide) (hts _ (List.mem_cons_of_mem _ wd_348)) (fun _ h9 => h9) rfl hin rfl (by decide +kernel) rfl rfl (Nat.le_of_ble_eq_true rfl) dM_init_122 (fun H locs hP hD hS => ?_)
  have hP : va_P (dC, dI) vwCl [(h0, .inr (3, [.int 0, .int 0, .int 0, .int 0, .ref q17, .ref q25, .ref q33, .ref q41, .ref q49, .ref q57, .ref q65, .ref q73, .ref q81, .ref q89, .ref q97, .ref q105, .ref q113, .ref q120, .null, .null, .null, .null, .null])), (q17, .inl (c17, 8, .inl (fun _ => 0))), (q25, .inl (c25, 8, .inl (fun _ => 0))), (q33, .inl (c33, 8, .inl (fun _ => 0))), (q41, .inl (c41, 8, .inl (fun _ => 0))), (q49, .inl (c49, 8, .inl (fun _ => 0))), (q57, .inl (c57, 8, .inl (fun _ => 0))), (q65, .inl (c65, 8, .inl (fun _ => 0))), (q73, .inl (c73, 8, .inl (fun _ => 0))), (q81, .inl (c81, 8, .inl (fun _ => 0))), (q89, .inl (c89, 8, .inl (fun _ => 0))), (q97, .inl (c97, 8, .inl (fun _ => 0))), (q105, .inl (c105, 8, .inl (fun _ => 0))), (q113, .inl (c113, 8, .inl (fun _ => 0))), (q120, .inl (c120, 4, .inl (fun _ => 0)))] H := hP
  have hD : va_D A [(h0, .inr (3, [.int 0, .int 0, .int 0, .int 0, .ref q17, .ref q25, .ref q33, .ref q41, .ref q49, .ref q57, .ref q65, .ref q73, .ref q81, .ref q89, .ref q97, .ref q105, .ref q113, .ref q120, .null, .null, .null, .null, .null])), (q17, .inl (c17, 8, .inl (fun _ => 0))), (q25, .inl (c25, 8, .inl (fun _ => 0))), (q33, .inl (c33, 8, .inl (fun _ => 0))), (q41, .inl (c41, 8, .inl (fun _ => 0))), (q49, .inl (c49, 8, .inl (fun _ => 0))), (q57, .inl (c57, 8, .inl (fun _ => 0))), (q65, .inl (c65, 8, .inl (fun _ => 0))), (q73, .inl (c73, 8, .inl (fun _ => 0))), (q81, .inl (c81, 8, .inl (fun _ => 0))), (q89, .inl (c89, 8, .inl (fun _ => 0))), (q97, .inl (c97, 8, .inl (fun _ => 0))), (q105, .inl (c105, 8, .inl (fun _ => 0))), (q113, .inl (c113, 8, .inl (fun _ => 0))), (q120, .inl (c120, 4, .inl (fun _ => 0)))] := hD
  refine lv_aload_n hx hb dM_init_125 rfl (lv_at hl 0 rfl) ?_
  refine lv_iconst (v := 2) hx hb dM_init_126 (by decide) ?_
  refine va_newa (atype := .int) (N' := 2) (a0 := (2, .inl (fun _ => 0))) (ty := .int) hx hb (hts _ (List.mem_cons_of_mem _ wd_87)) rfl hK hP hD hS hA (fun _ => rfl) (by decide) (by decide) (by decide) (Nat.le_of_ble_eq_true rfl) (Nat.le_of_ble_eq_true rfl) dM_init_127 (fun q127 c127 H hK hP hD hS => ?_)
  have hP : va_P (dC, dI) vwCl [(h0, .inr (3, [.int 0, .int 0, .int 0, .int 0, .ref q17, .ref q25, .ref q33, .ref q41, .ref q49, .ref q57, .ref q65, .ref q73, .ref q81, .ref q89, .ref q97, .ref q105, .ref q113, .ref q120, .null, .null, .null, .null, .null])), (q17, .inl (c17, 8, .inl (fun _ => 0))), (q25, .inl (c25, 8, .inl (fun _ => 0))), (q33, .inl (c33, 8, .inl (fun _ => 0))), (q41, .inl (c41, 8, .inl (fun _ => 0))), (q49, .inl (c49, 8, .inl (fun _ => 0))), (q57, .inl (c57, 8, .inl (fun _ => 0))), (q65, .inl (c65, 8, .inl (fun _ => 0))), (q73, .inl (c73, 8, .inl (fun _ => 0))), (q81, .inl (c81, 8, .inl (fun _ => 0))), (q89, .inl (c89, 8, .inl (fun _ => 0))), (q97, .inl (c97, 8, .inl (fun _ => 0))), (q105, .inl (c105, 8, .inl (fun _ => 0))), (q113, .inl (c113, 8, .inl (fun _ => 0))), (q120, .inl (c120, 4, .inl (fun _ => 0))), (q127, .inl (c127, 2, .inl (fun _ => 0)))] H := hP
  have hD : va_D A [(h0, .inr (3, [.int 0, .int 0, .int 0, .int 0, .ref q17, .ref q25, .ref q33, .ref q41, .ref q49, .ref q57, .ref q65, .ref q73, .ref q81, .ref q89, .ref q97, .ref q105, .ref q113, .ref q120, .null, .null, .null, .null, .null])), (q17, .inl (c17, 8, .inl (fun _ => 0))), (q25, .inl (c25, 8, .inl (fun _ => 0))), (q33, .inl (c33, 8, .inl (fun _ => 0))), (q41, .inl (c41, 8, .inl (fun _ => 0))), (q49, .inl (c49, 8, .inl (fun _ => 0))), (q57, .inl (c57, 8, .inl (fun _ => 0))), (q65, .inl (c65, 8, .inl (fun _ => 0))), (q73, .inl (c73, 8, .inl (fun _ => 0))), (q81, .inl (c81, 8, .inl (fun _ => 0))), (q89, .inl (c89, 8, .inl (fun _ => 0))), (q97, .inl (c97, 8, .inl (fun _ => 0))), (q105, .inl (c105, 8, .inl (fun _ => 0))), (q113, .inl (c113, 8, .inl (fun _ => 0))), (q120, .inl (c120, 4, .inl (fun _ => 0))), (q127, .inl (c127, 2, .inl (fun _ => 0)))] := hD
  have hK : va_K (dC, dI) vwCl [(c17, .int), (c25, .int), (c33, .int), (c41, .int), (c49, .int), (c57, .int), (c65, .int), (c73, .int), (c81, .int), (c89, .int), (c97, .int), (c105, .boolean), (c113, .boolean), (c120, .int), (c127, .int)] s := hK
  refine W.widen (k := 15) (n := 110) (by omega) (by omega) ?_
  refine va_putF (D := (dC, dI)) (ci := 3) (v := .ref q127) (ty := .array .int) (C := R_M) (T := T_M) (N := 23) hx hb hts uw_M ty_M ty_M_ok nm_M hown hK hP hD hS 0 rfl rfl 18 (by decide) (hts _ (List.mem_cons_of_mem _ wd_349)) (fun _ h9 => h9) rfl hin rfl (by decide +kernel) rfl rfl (Nat.le_of_ble_eq_true rfl) dM_init_129 (fun H locs hP hD hS => ?_)
  have hP : va_P (dC, dI) vwCl [(h0, .inr (3, [.int 0, .int 0, .int 0, .int 0, .ref q17, .ref q25, .ref q33, .ref q41, .ref q49, .ref q57, .ref q65, .ref q73, .ref q81, .ref q89, .ref q97, .ref q105, .ref q113, .ref q120, .ref q127, .null, .null, .null, .null])), (q17, .inl (c17, 8, .inl (fun _ => 0))), (q25, .inl (c25, 8, .inl (fun _ => 0))), (q33, .inl (c33, 8, .inl (fun _ => 0))), (q41, .inl (c41, 8, .inl (fun _ => 0))), (q49, .inl (c49, 8, .inl (fun _ => 0))), (q57, .inl (c57, 8, .inl (fun _ => 0))), (q65, .inl (c65, 8, .inl (fun _ => 0))), (q73, .inl (c73, 8, .inl (fun _ => 0))), (q81, .inl (c81, 8, .inl (fun _ => 0))), (q89, .inl (c89, 8, .inl (fun _ => 0))), (q97, .inl (c97, 8, .inl (fun _ => 0))), (q105, .inl (c105, 8, .inl (fun _ => 0))), (q113, .inl (c113, 8, .inl (fun _ => 0))), (q120, .inl (c120, 4, .inl (fun _ => 0))), (q127, .inl (c127, 2, .inl (fun _ => 0)))] H := hP
  have hD : va_D A [(h0, .inr (3, [.int 0, .int 0, .int 0, .int 0, .ref q17, .ref q25, .ref q33, .ref q41, .ref q49, .ref q57, .ref q65, .ref q73, .ref q81, .ref q89, .ref q97, .ref q105, .ref q113, .ref q120, .ref q127, .null, .null, .null, .null])), (q17, .inl (c17, 8, .inl (fun _ => 0))), (q25, .inl (c25, 8, .inl (fun _ => 0))), (q33, .inl (c33, 8, .inl (fun _ => 0))), (q41, .inl (c41, 8, .inl (fun _ => 0))), (q49, .inl (c49, 8, .inl (fun _ => 0))), (q57, .inl (c57, 8, .inl (fun _ => 0))), (q65, .inl (c65, 8, .inl (fun _ => 0))), (q73, .inl (c73, 8, .inl (fun _ => 0))), (q81, .inl (c81, 8, .inl (fun _ => 0))), (q89, .inl (c89, 8, .inl (fun _ => 0))), (q97, .inl (c97, 8, .inl (fun _ => 0))), (q105, .inl (c105, 8, .inl (fun _ => 0))), (q113, .inl (c113, 8, .inl (fun _ => 0))), (q120, .inl (c120, 4, .inl (fun _ => 0))), (q127, .inl (c127, 2, .inl (fun _ => 0)))] := hD
  refine lv_aload_n hx hb dM_init_132 rfl (lv_at hl 0 rfl) ?_
  refine lv_iconst (v := 2) hx hb dM_init_133 (by decide) ?_
  refine va_newa (atype := .int) (N' := 2) (a0 := (2, .inl (fun _ => 0))) (ty := .int) hx hb (hts _ (List.mem_cons_of_mem _ wd_87)) rfl hK hP hD hS hA (fun _ => rfl) (by decide) (by decide) (by decide) (Nat.le_of_ble_eq_true rfl) (Nat.le_of_ble_eq_true rfl) dM_init_134 (fun q134 c134 H hK hP hD hS => ?_)
  have hP : va_P (dC, dI) vwCl [(h0, .inr (3, [.int 0, .int 0, .int 0, .int 0, .ref q17, .ref q25, .ref q33, .ref q41, .ref q49, .ref q57, .ref q65, .ref q73, .ref q81, .ref q89, .ref q97, .ref q105, .ref q113, .ref q120, .ref q127, .null, .null, .null, .null])), (q17, .inl (c17, 8, .inl (fun _ => 0))), (q25, .inl (c25, 8, .inl (fun _ => 0))), (q33, .inl (c33, 8, .inl (fun _ => 0))), (q41, .inl (c41, 8, .inl (fun _ => 0))), (q49, .inl (c49, 8, .inl (fun _ => 0))), (q57, .inl (c57, 8, .inl (fun _ => 0))), (q65, .inl (c65, 8, .inl (fun _ => 0))), (q73, .inl (c73, 8, .inl (fun _ => 0))), (q81, .inl (c81, 8, .inl (fun _ => 0))), (q89, .inl (c89, 8, .inl (fun _ => 0))), (q97, .inl (c97, 8, .inl (fun _ => 0))), (q105, .inl (c105, 8, .inl (fun _ => 0))), (q113, .inl (c113, 8, .inl (fun _ => 0))), (q120, .inl (c120, 4, .inl (fun _ => 0))), (q127, .inl (c127, 2, .inl (fun _ => 0))), (q134, .inl (c134, 2, .inl (fun _ => 0)))] H := hP
  have hD : va_D A [(h0, .inr (3, [.int 0, .int 0, .int 0, .int 0, .ref q17, .ref q25, .ref q33, .ref q41, .ref q49, .ref q57, .ref q65, .ref q73, .ref q81, .ref q89, .ref q97, .ref q105, .ref q113, .ref q120, .ref q127, .null, .null, .null, .null])), (q17, .inl (c17, 8, .inl (fun _ => 0))), (q25, .inl (c25, 8, .inl (fun _ => 0))), (q33, .inl (c33, 8, .inl (fun _ => 0))), (q41, .inl (c41, 8, .inl (fun _ => 0))), (q49, .inl (c49, 8, .inl (fun _ => 0))), (q57, .inl (c57, 8, .inl (fun _ => 0))), (q65, .inl (c65, 8, .inl (fun _ => 0))), (q73, .inl (c73, 8, .inl (fun _ => 0))), (q81, .inl (c81, 8, .inl (fun _ => 0))), (q89, .inl (c89, 8, .inl (fun _ => 0))), (q97, .inl (c97, 8, .inl (fun _ => 0))), (q105, .inl (c105, 8, .inl (fun _ => 0))), (q113, .inl (c113, 8, .inl (fun _ => 0))), (q120, .inl (c120, 4, .inl (fun _ => 0))), (q127, .inl (c127, 2, .inl (fun _ => 0))), (q134, .inl (c134, 2, .inl (fun _ => 0)))] := hD
  have hK : va_K (dC, dI) vwCl [(c17, .int), (c25, .int), (c33, .int), (c41, .int), (c49, .int), (c57, .int), (c65, .int), (c73, .int), (c81, .int), (c89, .int), (c97, .int), (c105, .boolean), (c113, .boolean), (c120, .int), (c127, .int), (c134, .int)] s := hK
  refine W.widen (k := 16) (n := 112) (by omega) (by omega) ?_
  refine va_putF (D := (dC, dI)) (ci := 3) (v := .ref q134) (ty := .array .int) (C := R_M) (T := T_M) (N := 23) hx hb hts uw_M ty_M ty_M_ok nm_M hown hK hP hD hS 0 rfl rfl 19 (by decide) (hts _ (List.mem_cons_of_mem _ wd_350)) (fun _ h9 => h9) rfl hin rfl (by decide +kernel) rfl rfl (Nat.le_of_ble_eq_true rfl) dM_init_136 (fun H locs hP hD hS => ?_)
  have hP : va_P (dC, dI) vwCl [(h0, .inr (3, [.int 0, .int 0, .int 0, .int 0, .ref q17, .ref q25, .ref q33, .ref q41, .ref q49, .ref q57, .ref q65, .ref q73, .ref q81, .ref q89, .ref q97, .ref q105, .ref q113, .ref q120, .ref q127, .ref q134, .null, .null, .null])), (q17, .inl (c17, 8, .inl (fun _ => 0))), (q25, .inl (c25, 8, .inl (fun _ => 0))), (q33, .inl (c33, 8, .inl (fun _ => 0))), (q41, .inl (c41, 8, .inl (fun _ => 0))), (q49, .inl (c49, 8, .inl (fun _ => 0))), (q57, .inl (c57, 8, .inl (fun _ => 0))), (q65, .inl (c65, 8, .inl (fun _ => 0))), (q73, .inl (c73, 8, .inl (fun _ => 0))), (q81, .inl (c81, 8, .inl (fun _ => 0))), (q89, .inl (c89, 8, .inl (fun _ => 0))), (q97, .inl (c97, 8, .inl (fun _ => 0))), (q105, .inl (c105, 8, .inl (fun _ => 0))), (q113, .inl (c113, 8, .inl (fun _ => 0))), (q120, .inl (c120, 4, .inl (fun _ => 0))), (q127, .inl (c127, 2, .inl (fun _ => 0))), (q134, .inl (c134, 2, .inl (fun _ => 0)))] H := hP
  have hD : va_D A [(h0, .inr (3, [.int 0, .int 0, .int 0, .int 0, .ref q17, .ref q25, .ref q33, .ref q41, .ref q49, .ref q57, .ref q65, .ref q73, .ref q81, .ref q89, .ref q97, .ref q105, .ref q113, .ref q120, .ref q127, .ref q134, .null, .null, .null])), (q17, .inl (c17, 8, .inl (fun _ => 0))), (q25, .inl (c25, 8, .inl (fun _ => 0))), (q33, .inl (c33, 8, .inl (fun _ => 0))), (q41, .inl (c41, 8, .inl (fun _ => 0))), (q49, .inl (c49, 8, .inl (fun _ => 0))), (q57, .inl (c57, 8, .inl (fun _ => 0))), (q65, .inl (c65, 8, .inl (fun _ => 0))), (q73, .inl (c73, 8, .inl (fun _ => 0))), (q81, .inl (c81, 8, .inl (fun _ => 0))), (q89, .inl (c89, 8, .inl (fun _ => 0))), (q97, .inl (c97, 8, .inl (fun _ => 0))), (q105, .inl (c105, 8, .inl (fun _ => 0))), (q113, .inl (c113, 8, .inl (fun _ => 0))), (q120, .inl (c120, 4, .inl (fun _ => 0))), (q127, .inl (c127, 2, .inl (fun _ => 0))), (q134, .inl (c134, 2, .inl (fun _ => 0)))] := hD
  refine lv_aload_n hx hb dM_init_139 rfl (lv_at hl 0 rfl) ?_
  refine lv_bipush (v := 8) hx hb dM_init_140 (by decide) ?_
  refine va_newa (atype := .int) (N' := 8) (a0 := (8, .inl (fun _ => 0))) (ty := .int) hx hb (hts _ (List.mem_cons_of_mem _ wd_87)) rfl hK hP hD hS hA (fun _ => rfl) (by decide) (by decide) (by decide) (Nat.le_of_ble_eq_true rfl) (Nat.le_of_ble_eq_true rfl) dM_init_142 (fun q142 c142 H hK hP hD hS => ?_)
  have hP : va_P (dC, dI) vwCl [(h0, .inr (3, [.int 0, .int 0, .int 0, .int 0, .ref q17, .ref q25, .ref q33, .ref q41, .ref q49, .ref q57, .ref q65, .ref q73, .ref q81, .ref q89, .ref q97, .ref q105, .ref q113, .ref q120, .ref q127, .ref q134, .null, .null, .null])), (q17, .inl (c17, 8, .inl (fun _ => 0))), (q25, .inl (c25, 8, .inl (fun _ => 0))), (q33, .inl (c33, 8, .inl (fun _ => 0))), (q41, .inl (c41, 8, .inl (fun _ => 0))), (q49, .inl (c49, 8, .inl (fun _ => 0))), (q57, .inl (c57, 8, .inl (fun _ => 0))), (q65, .inl (c65, 8, .inl (fun _ => 0))), (q73, .inl (c73, 8, .inl (fun _ => 0))), (q81, .inl (c81, 8, .inl (fun _ => 0))), (q89, .inl (c89, 8, .inl (fun _ => 0))), (q97, .inl (c97, 8, .inl (fun _ => 0))), (q105, .inl (c105, 8, .inl (fun _ => 0))), (q113, .inl (c113, 8, .inl (fun _ => 0))), (q120, .inl (c120, 4, .inl (fun _ => 0))), (q127, .inl (c127, 2, .inl (fun _ => 0))), (q134, .inl (c134, 2, .inl (fun _ => 0))), (q142, .inl (c142, 8, .inl (fun _ => 0)))] H := hP
  have hD : va_D A [(h0, .inr (3, [.int 0, .int 0, .int 0, .int 0, .ref q17, .ref q25, .ref q33, .ref q41, .ref q49, .ref q57, .ref q65, .ref q73, .ref q81, .ref q89, .ref q97, .ref q105, .ref q113, .ref q120, .ref q127, .ref q134, .null, .null, .null])), (q17, .inl (c17, 8, .inl (fun _ => 0))), (q25, .inl (c25, 8, .inl (fun _ => 0))), (q33, .inl (c33, 8, .inl (fun _ => 0))), (q41, .inl (c41, 8, .inl (fun _ => 0))), (q49, .inl (c49, 8, .inl (fun _ => 0))), (q57, .inl (c57, 8, .inl (fun _ => 0))), (q65, .inl (c65, 8, .inl (fun _ => 0))), (q73, .inl (c73, 8, .inl (fun _ => 0))), (q81, .inl (c81, 8, .inl (fun _ => 0))), (q89, .inl (c89, 8, .inl (fun _ => 0))), (q97, .inl (c97, 8, .inl (fun _ => 0))), (q105, .inl (c105, 8, .inl (fun _ => 0))), (q113, .inl (c113, 8, .inl (fun _ => 0))), (q120, .inl (c120, 4, .inl (fun _ => 0))), (q127, .inl (c127, 2, .inl (fun _ => 0))), (q134, .inl (c134, 2, .inl (fun _ => 0))), (q142, .inl (c142, 8, .inl (fun _ => 0)))] := hD
  have hK : va_K (dC, dI) vwCl [(c17, .int), (c25, .int), (c33, .int), (c41, .int), (c49, .int), (c57, .int), (c65, .int), (c73, .int), (c81, .int), (c89, .int), (c97, .int), (c105, .boolean), (c113, .boolean), (c120, .int), (c127, .int), (c134, .int), (c142, .int)] s := hK
  refine W.widen (k := 17) (n := 120) (by omega) (by omega) ?_
  refine va_putF (D := (dC, dI)) (ci := 3) (v := .ref q142) (ty := .array .int) (C := R_M) (T := T_M) (N := 23) hx hb hts uw_M ty_M ty_M_ok nm_M hown hK hP hD hS 0 rfl rfl 20 (by decide) (hts _ (List.mem_cons_of_mem _ wd_351)) (fun _ h9 => h9) rfl hin rfl (by decide +kernel) rfl rfl (Nat.le_of_ble_eq_true rfl) dM_init_144 (fun H locs hP hD hS => ?_)
  have hP : va_P (dC, dI) vwCl [(h0, .inr (3, [.int 0, .int 0, .int 0, .int 0, .ref q17, .ref q25, .ref q33, .ref q41, .ref q49, .ref q57, .ref q65, .ref q73, .ref q81, .ref q89, .ref q97, .ref q105, .ref q113, .ref q120, .ref q127, .ref q134, .ref q142, .null, .null])), (q17, .inl (c17, 8, .inl (fun _ => 0))), (q25, .inl (c25, 8, .inl (fun _ => 0))), (q33, .inl (c33, 8, .inl (fun _ => 0))), (q41, .inl (c41, 8, .inl (fun _ => 0))), (q49, .inl (c49, 8, .inl (fun _ => 0))), (q57, .inl (c57, 8, .inl (fun _ => 0))), (q65, .inl (c65, 8, .inl (fun _ => 0))), (q73, .inl (c73, 8, .inl (fun _ => 0))), (q81, .inl (c81, 8, .inl (fun _ => 0))), (q89, .inl (c89, 8, .inl (fun _ => 0))), (q97, .inl (c97, 8, .inl (fun _ => 0))), (q105, .inl (c105, 8, .inl (fun _ => 0))), (q113, .inl (c113, 8, .inl (fun _ => 0))), (q120, .inl (c120, 4, .inl (fun _ => 0))), (q127, .inl (c127, 2, .inl (fun _ => 0))), (q134, .inl (c134, 2, .inl (fun _ => 0))), (q142, .inl (c142, 8, .inl (fun _ => 0)))] H := hP
  have hD : va_D A [(h0, .inr (3, [.int 0, .int 0, .int 0, .int 0, .ref q17, .ref q25, .ref q33, .ref q41, .ref q49, .ref q57, .ref q65, .ref q73, .ref q81, .ref q89, .ref q97, .ref q105, .ref q113, .ref q120, .ref q127, .ref q134, .ref q142, .null, .null])), (q17, .inl (c17, 8, .inl (fun _ => 0))), (q25, .inl (c25, 8, .inl (fun _ => 0))), (q33, .inl (c33, 8, .inl (fun _ => 0))), (q41, .inl (c41, 8, .inl (fun _ => 0))), (q49, .inl (c49, 8, .inl (fun _ => 0))), (q57, .inl (c57, 8, .inl (fun _ => 0))), (q65, .inl (c65, 8, .inl (fun _ => 0))), (q73, .inl (c73, 8, .inl (fun _ => 0))), (q81, .inl (c81, 8, .inl (fun _ => 0))), (q89, .inl (c89, 8, .inl (fun _ => 0))), (q97, .inl (c97, 8, .inl (fun _ => 0))), (q105, .inl (c105, 8, .inl (fun _ => 0))), (q113, .inl (c113, 8, .inl (fun _ => 0))), (q120, .inl (c120, 4, .inl (fun _ => 0))), (q127, .inl (c127, 2, .inl (fun _ => 0))), (q134, .inl (c134, 2, .inl (fun _ => 0))), (q142, .inl (c142, 8, .inl (fun _ => 0)))] := hD
  refine lv_aload_n hx hb dM_init_147 rfl (lv_at hl 0 rfl) ?_
  refine lv_bipush (v := 8) hx hb dM_init_148 (by decide) ?_
  refine va_newa (atype := .int) (N' := 8) (a0 := (8, .inl (fun _ => 0))) (ty := .int) hx hb (hts _ (List.mem_cons_of_mem _ wd_87)) rfl hK hP hD hS hA (fun _ => rfl) (by decide) (by decide) (by decide) (Nat.le_of_ble_eq_true rfl) (Nat.le_of_ble_eq_true rfl) dM_init_150 (fun q150 c150 H hK hP hD hS => ?_)
  have hP : va_P (dC, dI) vwCl [(h0, .inr (3, [.int 0, .int 0, .int 0, .int 0, .ref q17, .ref q25, .ref q33, .ref q41, .ref q49, .ref q57, .ref q65, .ref q73, .ref q81, .ref q89, .ref q97, .ref q105, .ref q113, .ref q120, .ref q127, .ref q134, .ref q142, .null, .null])), (q17, .inl (c17, 8, .inl (fun _ => 0))), (q25, .inl (c25, 8, .inl (fun _ => 0))), (q33, .inl (c33, 8, .inl (fun _ => 0))), (q41, .inl (c41, 8, .inl (fun _ => 0))), (q49, .inl (c49, 8, .inl (fun _ => 0))), (q57, .inl (c57, 8, .inl (fun _ => 0))), (q65, .inl (c65, 8, .inl (fun _ => 0))), (q73, .inl (c73, 8, .inl (fun _ => 0))), (q81, .inl (c81, 8, .inl (fun _ => 0))), (q89, .inl (c89, 8, .inl (fun _ => 0))), (q97, .inl (c97, 8, .inl (fun _ => 0))), (q105, .inl (c105, 8, .inl (fun _ => 0))), (q113, .inl (c113, 8, .inl (fun _ => 0))), (q120, .inl (c120, 4, .inl (fun _ => 0))), (q127, .inl (c127, 2, .inl (fun _ => 0))), (q134, .inl (c134, 2, .inl (fun _ => 0))), (q142, .inl (c142, 8, .inl (fun _ => 0))), (q150, .inl (c150, 8, .inl (fun _ => 0)))] H := hP
  have hD : va_D A [(h0, .inr (3, [.int 0, .int 0, .int 0, .int 0, .ref q17, .ref q25, .ref q33, .ref q41, .ref q49, .ref q57, .ref q65, .ref q73, .ref q81, .ref q89, .ref q97, .ref q105, .ref q113, .ref q120, .ref q127, .ref q134, .ref q142, .null, .null])), (q17, .inl (c17, 8, .inl (fun _ => 0))), (q25, .inl (c25, 8, .inl (fun _ => 0))), (q33, .inl (c33, 8, .inl (fun _ => 0))), (q41, .inl (c41, 8, .inl (fun _ => 0))), (q49, .inl (c49, 8, .inl (fun _ => 0))), (q57, .inl (c57, 8, .inl (fun _ => 0))), (q65, .inl (c65, 8, .inl (fun _ => 0))), (q73, .inl (c73, 8, .inl (fun _ => 0))), (q81, .inl (c81, 8, .inl (fun _ => 0))), (q89, .inl (c89, 8, .inl (fun _ => 0))), (q97, .inl (c97, 8, .inl (fun _ => 0))), (q105, .inl (c105, 8, .inl (fun _ => 0))), (q113, .inl (c113, 8, .inl (fun _ => 0))), (q120, .inl (c120, 4, .inl (fun _ => 0))), (q127, .inl (c127, 2, .inl (fun _ => 0))), (q134, .inl (c134, 2, .inl (fun _ => 0))), (q142, .inl (c142, 8, .inl (fun _ => 0))), (q150, .inl (c150, 8, .inl (fun _ => 0)))] := hD
  have hK : va_K (dC, dI) vwCl [(c17, .int), (c25, .int), (c33, .int), (c41, .int), (c49, .int), (c57, .int), (c65, .int), (c73, .int), (c81, .int), (c89, .int), (c97, .int), (c105, .boolean), (c113, .boolean), (c120, .int), (c127, .int), (c134, .int), (c142, .int), (c150, .int)] s := hK
  refine W.widen (k := 18) (n := 128) (by omega) (by omega) ?_
  refine va_putF (D := (dC, dI)) (ci := 3) (v := .ref q150) (ty := .array .int) (C := R_M) (T := T_M) (N := 23) hx hb hts uw_M ty_M ty_M_ok nm_M hown hK hP hD hS 0 rfl rfl 21 (by decide) (hts _ (List.mem_cons_of_mem _ wd_352)) (fun _ h9 => h9) rfl hin rfl (by decide +kernel) rfl rfl (Nat.le_of_ble_eq_true rfl) dM_init_152 (fun H locs hP hD hS => ?_)
  have hP : va_P (dC, dI) vwCl [(h0, .inr (3, [.int 0, .int 0, .int 0, .int 0, .ref q17, .ref q25, .ref q33, .ref q41, .ref q49, .ref q57, .ref q65, .ref q73, .ref q81, .ref q89, .ref q97, .ref q105, .ref q113, .ref q120, .ref q127, .ref q134, .ref q142, .ref q150, .null])), (q17, .inl (c17, 8, .inl (fun _ => 0))), (q25, .inl (c25, 8, .inl (fun _ => 0))), (q33, .inl (c33, 8, .inl (fun _ => 0))), (q41, .inl (c41, 8, .inl (fun _ => 0))), (q49, .inl (c49, 8, .inl (fun _ => 0))), (q57, .inl (c57, 8, .inl (fun _ => 0))), (q65, .inl (c65, 8, .inl (fun _ => 0))), (q73, .inl (c73, 8, .inl (fun _ => 0))), (q81, .inl (c81, 8, .inl (fun _ => 0))), (q89, .inl (c89, 8, .inl (fun _ => 0))), (q97, .inl (c97, 8, .inl (fun _ => 0))), (q105, .inl (c105, 8, .inl (fun _ => 0))), (q113, .inl (c113, 8, .inl (fun _ => 0))), (q120, .inl (c120, 4, .inl (fun _ => 0))), (q127, .inl (c127, 2, .inl (fun _ => 0))), (q134, .inl (c134, 2, .inl (fun _ => 0))), (q142, .inl (c142, 8, .inl (fun _ => 0))), (q150, .inl (c150, 8, .inl (fun _ => 0)))] H := hP
  have hD : va_D A [(h0, .inr (3, [.int 0, .int 0, .int 0, .int 0, .ref q17, .ref q25, .ref q33, .ref q41, .ref q49, .ref q57, .ref q65, .ref q73, .ref q81, .ref q89, .ref q97, .ref q105, .ref q113, .ref q120, .ref q127, .ref q134, .ref q142, .ref q150, .null])), (q17, .inl (c17, 8, .inl (fun _ => 0))), (q25, .inl (c25, 8, .inl (fun _ => 0))), (q33, .inl (c33, 8, .inl (fun _ => 0))), (q41, .inl (c41, 8, .inl (fun _ => 0))), (q49, .inl (c49, 8, .inl (fun _ => 0))), (q57, .inl (c57, 8, .inl (fun _ => 0))), (q65, .inl (c65, 8, .inl (fun _ => 0))), (q73, .inl (c73, 8, .inl (fun _ => 0))), (q81, .inl (c81, 8, .inl (fun _ => 0))), (q89, .inl (c89, 8, .inl (fun _ => 0))), (q97, .inl (c97, 8, .inl (fun _ => 0))), (q105, .inl (c105, 8, .inl (fun _ => 0))), (q113, .inl (c113, 8, .inl (fun _ => 0))), (q120, .inl (c120, 4, .inl (fun _ => 0))), (q127, .inl (c127, 2, .inl (fun _ => 0))), (q134, .inl (c134, 2, .inl (fun _ => 0))), (q142, .inl (c142, 8, .inl (fun _ => 0))), (q150, .inl (c150, 8, .inl (fun _ => 0)))] := hD
  refine lv_aload_n hx hb dM_init_155 rfl (lv_at hl 0 rfl) ?_
  refine lv_bipush (v := 8) hx hb dM_init_156 (by decide) ?_
  refine va_newa (atype := .int) (N' := 8) (a0 := (8, .inl (fun _ => 0))) (ty := .int) hx hb (hts _ (List.mem_cons_of_mem _ wd_87)) rfl hK hP hD hS hA (fun _ => rfl) (by decide) (by decide) (by decide) (Nat.le_of_ble_eq_true rfl) (Nat.le_of_ble_eq_true rfl) dM_init_158 (fun q158 c158 H hK hP hD hS => ?_)
  have hP : va_P (dC, dI) vwCl [(h0, .inr (3, [.int 0, .int 0, .int 0, .int 0, .ref q17, .ref q25, .ref q33, .ref q41, .ref q49, .ref q57, .ref q65, .ref q73, .ref q81, .ref q89, .ref q97, .ref q105, .ref q113, .ref q120, .ref q127, .ref q134, .ref q142, .ref q150, .null])), (q17, .inl (c17, 8, .inl (fun _ => 0))), (q25, .inl (c25, 8, .inl (fun _ => 0))), (q33, .inl (c33, 8, .inl (fun _ => 0))), (q41, .inl (c41, 8, .inl (fun _ => 0))), (q49, .inl (c49, 8, .inl (fun _ => 0))), (q57, .inl (c57, 8, .inl (fun _ => 0))), (q65, .inl (c65, 8, .inl (fun _ => 0))), (q73, .inl (c73, 8, .inl (fun _ => 0))), (q81, .inl (c81, 8, .inl (fun _ => 0))), (q89, .inl (c89, 8, .inl (fun _ => 0))), (q97, .inl (c97, 8, .inl (fun _ => 0))), (q105, .inl (c105, 8, .inl (fun _ => 0))), (q113, .inl (c113, 8, .inl (fun _ => 0))), (q120, .inl (c120, 4, .inl (fun _ => 0))), (q127, .inl (c127, 2, .inl (fun _ => 0))), (q134, .inl (c134, 2, .inl (fun _ => 0))), (q142, .inl (c142, 8, .inl (fun _ => 0))), (q150, .inl (c150, 8, .inl (fun _ => 0))), (q158, .inl (c158, 8, .inl (fun _ => 0)))] H := hP
  have hD : va_D A [(h0, .inr (3, [.int 0, .int 0, .int 0, .int 0, .ref q17, .ref q25, .ref q33, .ref q41, .ref q49, .ref q57, .ref q65, .ref q73, .ref q81, .ref q89, .ref q97, .ref q105, .ref q113, .ref q120, .ref q127, .ref q134, .ref q142, .ref q150, .null])), (q17, .inl (c17, 8, .inl (fun _ => 0))), (q25, .inl (c25, 8, .inl (fun _ => 0))), (q33, .inl (c33, 8, .inl (fun _ => 0))), (q41, .inl (c41, 8, .inl (fun _ => 0))), (q49, .inl (c49, 8, .inl (fun _ => 0))), (q57, .inl (c57, 8, .inl (fun _ => 0))), (q65, .inl (c65, 8, .inl (fun _ => 0))), (q73, .inl (c73, 8, .inl (fun _ => 0))), (q81, .inl (c81, 8, .inl (fun _ => 0))), (q89, .inl (c89, 8, .inl (fun _ => 0))), (q97, .inl (c97, 8, .inl (fun _ => 0))), (q105, .inl (c105, 8, .inl (fun _ => 0))), (q113, .inl (c113, 8, .inl (fun _ => 0))), (q120, .inl (c120, 4, .inl (fun _ => 0))), (q127, .inl (c127, 2, .inl (fun _ => 0))), (q134, .inl (c134, 2, .inl (fun _ => 0))), (q142, .inl (c142, 8, .inl (fun _ => 0))), (q150, .inl (c150, 8, .inl (fun _ => 0))), (q158, .inl (c158, 8, .inl (fun _ => 0)))] := hD
  have hK : va_K (dC, dI) vwCl [(c17, .int), (c25, .int), (c33, .int), (c41, .int), (c49, .int), (c57, .int), (c65, .int), (c73, .int), (c81, .int), (c89, .int), (c97, .int), (c105, .boolean), (c113, .boolean), (c120, .int), (c127, .int), (c134, .int), (c142, .int), (c150, .int), (c158, .int)] s := hK
  refine W.widen (k := 19) (n := 136) (by omega) (by omega) ?_
  refine va_putF (D := (dC, dI)) (ci := 3) (v := .ref q158) (ty := .array .int) (C := R_M) (T := T_M) (N := 23) hx hb hts uw_M ty_M ty_M_ok nm_M hown hK hP hD hS 0 rfl rfl 22 (by decide) (hts _ (List.mem_cons_of_mem _ wd_353)) (fun _ h9 => h9) rfl hin rfl (by decide +kernel) rfl rfl (Nat.le_of_ble_eq_true rfl) dM_init_160 (fun H locs hP hD hS => ?_)
  have hP : va_P (dC, dI) vwCl [(h0, .inr (3, [.int 0, .int 0, .int 0, .int 0, .ref q17, .ref q25, .ref q33, .ref q41, .ref q49, .ref q57, .ref q65, .ref q73, .ref q81, .ref q89, .ref q97, .ref q105, .ref q113, .ref q120, .ref q127, .ref q134, .ref q142, .ref q150, .ref q158])), (q17, .inl (c17, 8, .inl (fun _ => 0))), (q25, .inl (c25, 8, .inl (fun _ => 0))), (q33, .inl (c33, 8, .inl (fun _ => 0))), (q41, .inl (c41, 8, .inl (fun _ => 0))), (q49, .inl (c49, 8, .inl (fun _ => 0))), (q57, .inl (c57, 8, .inl (fun _ => 0))), (q65, .inl (c65, 8, .inl (fun _ => 0))), (q73, .inl (c73, 8, .inl (fun _ => 0))), (q81, .inl (c81, 8, .inl (fun _ => 0))), (q89, .inl (c89, 8, .inl (fun _ => 0))), (q97, .inl (c97, 8, .inl (fun _ => 0))), (q105, .inl (c105, 8, .inl (fun _ => 0))), (q113, .inl (c113, 8, .inl (fun _ => 0))), (q120, .inl (c120, 4, .inl (fun _ => 0))), (q127, .inl (c127, 2, .inl (fun _ => 0))), (q134, .inl (c134, 2, .inl (fun _ => 0))), (q142, .inl (c142, 8, .inl (fun _ => 0))), (q150, .inl (c150, 8, .inl (fun _ => 0))), (q158, .inl (c158, 8, .inl (fun _ => 0)))] H := hP
  have hD : va_D A [(h0, .inr (3, [.int 0, .int 0, .int 0, .int 0, .ref q17, .ref q25, .ref q33, .ref q41, .ref q49, .ref q57, .ref q65, .ref q73, .ref q81, .ref q89, .ref q97, .ref q105, .ref q113, .ref q120, .ref q127, .ref q134, .ref q142, .ref q150, .ref q158])), (q17, .inl (c17, 8, .inl (fun _ => 0))), (q25, .inl (c25, 8, .inl (fun _ => 0))), (q33, .inl (c33, 8, .inl (fun _ => 0))), (q41, .inl (c41, 8, .inl (fun _ => 0))), (q49, .inl (c49, 8, .inl (fun _ => 0))), (q57, .inl (c57, 8, .inl (fun _ => 0))), (q65, .inl (c65, 8, .inl (fun _ => 0))), (q73, .inl (c73, 8, .inl (fun _ => 0))), (q81, .inl (c81, 8, .inl (fun _ => 0))), (q89, .inl (c89, 8, .inl (fun _ => 0))), (q97, .inl (c97, 8, .inl (fun _ => 0))), (q105, .inl (c105, 8, .inl (fun _ => 0))), (q113, .inl (c113, 8, .inl (fun _ => 0))), (q120, .inl (c120, 4, .inl (fun _ => 0))), (q127, .inl (c127, 2, .inl (fun _ => 0))), (q134, .inl (c134, 2, .inl (fun _ => 0))), (q142, .inl (c142, 8, .inl (fun _ => 0))), (q150, .inl (c150, 8, .inl (fun _ => 0))), (q158, .inl (c158, 8, .inl (fun _ => 0)))] := hD
  refine lv_aload_n hx hb dM_init_163 rfl (lv_at hl 0 rfl) ?_
  refine lv_iload_n hx hb dM_init_164 rfl (lv_at hl 1 rfl) ?_
  refine lv_iconst (v := 1) hx hb dM_init_165 (by decide) ?_
  refine lv_icmp_ge (tgt := 173) hx hb dM_init_166 (by decide) (fun c_166 => ?_) (fun c_166 => ?_)
  · rw [if_pos c_166] at hf
    refine lv_iload_n hx hb dM_init_173 rfl (lv_at hl 1 rfl) ?_
    refine lv_bipush (v := 20) hx hb dM_init_174 (by decide) ?_
    refine lv_icmp_le (tgt := 184) hx hb dM_init_176 (by decide) (fun c_176 => ?_) (fun c_176 => ?_)
    · rw [if_pos c_176] at hf
      refine lv_iload_n hx hb dM_init_184 rfl (lv_at hl 1 rfl) ?_
      refine va_putF (D := (dC, dI)) (ci := 3) (v := .int slice) (ty := .int) (C := R_M) (T := T_M) (N := 23) hx hb hts uw_M ty_M ty_M_ok nm_M hown hK hP hD hS 0 rfl rfl 0 (by decide) (hts _ (List.mem_cons_of_mem _ wd_331)) (fun _ h9 => h9) rfl hin rfl (by decide +kernel) rfl rfl (Nat.le_of_ble_eq_true rfl) dM_init_185 (fun H locs hP hD hS => ?_)
      have hP : va_P (dC, dI) vwCl [(h0, .inr (3, [.int slice, .int 0, .int 0, .int 0, .ref q17, .ref q25, .ref q33, .ref q41, .ref q49, .ref q57, .ref q65, .ref q73, .ref q81, .ref q89, .ref q97, .ref q105, .ref q113, .ref q120, .ref q127, .ref q134, .ref q142, .ref q150, .ref q158])), (q17, .inl (c17, 8, .inl (fun _ => 0))), (q25, .inl (c25, 8, .inl (fun _ => 0))), (q33, .inl (c33, 8, .inl (fun _ => 0))), (q41, .inl (c41, 8, .inl (fun _ => 0))), (q49, .inl (c49, 8, .inl (fun _ => 0))), (q57, .inl (c57, 8, .inl (fun _ => 0))), (q65, .inl (c65, 8, .inl (fun _ => 0))), (q73, .inl (c73, 8, .inl (fun _ => 0))), (q81, .inl (c81, 8, .inl (fun _ => 0))), (q89, .inl (c89, 8, .inl (fun _ => 0))), (q97, .inl (c97, 8, .inl (fun _ => 0))), (q105, .inl (c105, 8, .inl (fun _ => 0))), (q113, .inl (c113, 8, .inl (fun _ => 0))), (q120, .inl (c120, 4, .inl (fun _ => 0))), (q127, .inl (c127, 2, .inl (fun _ => 0))), (q134, .inl (c134, 2, .inl (fun _ => 0))), (q142, .inl (c142, 8, .inl (fun _ => 0))), (q150, .inl (c150, 8, .inl (fun _ => 0))), (q158, .inl (c158, 8, .inl (fun _ => 0)))] H := hP
      have hD : va_D A [(h0, .inr (3, [.int slice, .int 0, .int 0, .int 0, .ref q17, .ref q25, .ref q33, .ref q41, .ref q49, .ref q57, .ref q65, .ref q73, .ref q81, .ref q89, .ref q97, .ref q105, .ref q113, .ref q120, .ref q127, .ref q134, .ref q142, .ref q150, .ref q158])), (q17, .inl (c17, 8, .inl (fun _ => 0))), (q25, .inl (c25, 8, .inl (fun _ => 0))), (q33, .inl (c33, 8, .inl (fun _ => 0))), (q41, .inl (c41, 8, .inl (fun _ => 0))), (q49, .inl (c49, 8, .inl (fun _ => 0))), (q57, .inl (c57, 8, .inl (fun _ => 0))), (q65, .inl (c65, 8, .inl (fun _ => 0))), (q73, .inl (c73, 8, .inl (fun _ => 0))), (q81, .inl (c81, 8, .inl (fun _ => 0))), (q89, .inl (c89, 8, .inl (fun _ => 0))), (q97, .inl (c97, 8, .inl (fun _ => 0))), (q105, .inl (c105, 8, .inl (fun _ => 0))), (q113, .inl (c113, 8, .inl (fun _ => 0))), (q120, .inl (c120, 4, .inl (fun _ => 0))), (q127, .inl (c127, 2, .inl (fun _ => 0))), (q134, .inl (c134, 2, .inl (fun _ => 0))), (q142, .inl (c142, 8, .inl (fun _ => 0))), (q150, .inl (c150, 8, .inl (fun _ => 0))), (q158, .inl (c158, 8, .inl (fun _ => 0)))] := hD
      refine lv_aload_n hx hb dM_init_188 rfl (lv_at hl 0 rfl) ?_
      refine lv_iload_n hx hb dM_init_189 rfl (lv_at hl 2 rfl) ?_
      refine lv_iconst (v := 1) hx hb dM_init_190 (by decide) ?_
      refine lv_icmp_ge (tgt := 198) hx hb dM_init_191 (by decide) (fun c_191 => ?_) (fun c_191 => ?_)
      · rw [if_pos c_191] at hf
        refine lv_iload_n hx hb dM_init_198 rfl (lv_at hl 2 rfl) ?_
        refine lv_bipush (v := 31) hx hb dM_init_199 (by decide) ?_
        refine lv_icmp_le (tgt := 209) hx hb dM_init_201 (by decide) (fun c_201 => ?_) (fun c_201 => ?_)
        · rw [if_pos c_201] at hf
          refine lv_iload_n hx hb dM_init_209 rfl (lv_at hl 2 rfl) ?_
          refine va_putF (D := (dC, dI)) (ci := 3) (v := .int ceiling) (ty := .int) (C := R_M) (T := T_M) (N := 23) hx hb hts uw_M ty_M ty_M_ok nm_M hown hK hP hD hS 0 rfl rfl 1 (by decide) (hts _ (List.mem_cons_of_mem _ wd_332)) (fun _ h9 => h9) rfl hin rfl (by decide +kernel) rfl rfl (Nat.le_of_ble_eq_true rfl) dM_init_210 (fun H locs hP hD hS => ?_)
          have hP : va_P (dC, dI) vwCl [(h0, .inr (3, [.int slice, .int ceiling, .int 0, .int 0, .ref q17, .ref q25, .ref q33, .ref q41, .ref q49, .ref q57, .ref q65, .ref q73, .ref q81, .ref q89, .ref q97, .ref q105, .ref q113, .ref q120, .ref q127, .ref q134, .ref q142, .ref q150, .ref q158])), (q17, .inl (c17, 8, .inl (fun _ => 0))), (q25, .inl (c25, 8, .inl (fun _ => 0))), (q33, .inl (c33, 8, .inl (fun _ => 0))), (q41, .inl (c41, 8, .inl (fun _ => 0))), (q49, .inl (c49, 8, .inl (fun _ => 0))), (q57, .inl (c57, 8, .inl (fun _ => 0))), (q65, .inl (c65, 8, .inl (fun _ => 0))), (q73, .inl (c73, 8, .inl (fun _ => 0))), (q81, .inl (c81, 8, .inl (fun _ => 0))), (q89, .inl (c89, 8, .inl (fun _ => 0))), (q97, .inl (c97, 8, .inl (fun _ => 0))), (q105, .inl (c105, 8, .inl (fun _ => 0))), (q113, .inl (c113, 8, .inl (fun _ => 0))), (q120, .inl (c120, 4, .inl (fun _ => 0))), (q127, .inl (c127, 2, .inl (fun _ => 0))), (q134, .inl (c134, 2, .inl (fun _ => 0))), (q142, .inl (c142, 8, .inl (fun _ => 0))), (q150, .inl (c150, 8, .inl (fun _ => 0))), (q158, .inl (c158, 8, .inl (fun _ => 0)))] H := hP
          have hD : va_D A [(h0, .inr (3, [.int slice, .int ceiling, .int 0, .int 0, .ref q17, .ref q25, .ref q33, .ref q41, .ref q49, .ref q57, .ref q65, .ref q73, .ref q81, .ref q89, .ref q97, .ref q105, .ref q113, .ref q120, .ref q127, .ref q134, .ref q142, .ref q150, .ref q158])), (q17, .inl (c17, 8, .inl (fun _ => 0))), (q25, .inl (c25, 8, .inl (fun _ => 0))), (q33, .inl (c33, 8, .inl (fun _ => 0))), (q41, .inl (c41, 8, .inl (fun _ => 0))), (q49, .inl (c49, 8, .inl (fun _ => 0))), (q57, .inl (c57, 8, .inl (fun _ => 0))), (q65, .inl (c65, 8, .inl (fun _ => 0))), (q73, .inl (c73, 8, .inl (fun _ => 0))), (q81, .inl (c81, 8, .inl (fun _ => 0))), (q89, .inl (c89, 8, .inl (fun _ => 0))), (q97, .inl (c97, 8, .inl (fun _ => 0))), (q105, .inl (c105, 8, .inl (fun _ => 0))), (q113, .inl (c113, 8, .inl (fun _ => 0))), (q120, .inl (c120, 4, .inl (fun _ => 0))), (q127, .inl (c127, 2, .inl (fun _ => 0))), (q134, .inl (c134, 2, .inl (fun _ => 0))), (q142, .inl (c142, 8, .inl (fun _ => 0))), (q150, .inl (c150, 8, .inl (fun _ => 0))), (q158, .inl (c158, 8, .inl (fun _ => 0)))] := hD
          refine lv_iconst (v := 0) hx hb dM_init_213 (by decide) ?_
          refine lv_istore_n (lv' := [(3, .int 0), (0, .ref h0), (1, .int slice), (2, .int ceiling)]) hx hb dM_init_214 rfl hl (by decide) rfl (fun ls hl => ?_)
          refine lv_iload_n hx hb dM_init_215 rfl (lv_at hl 0 rfl) ?_
          refine lv_iconst (v := 4) hx hb dM_init_216 (by decide) ?_
          refine lv_icmp_ge (tgt := 233) hx hb dM_init_217 (by decide) (fun c9 => absurd c9 (by decide)) (fun _ => ?_)
          refine lv_aload_n hx hb dM_init_220 rfl (lv_at hl 1 rfl) ?_
          refine va_get (D := (dC, dI)) (ci := 3) (v := .ref q120) (C := R_M) (T := T_M) (N := 23) hx hb hts uw_M hown hK hP 0 rfl rfl 17 (by decide) (hts _ (List.mem_cons_of_mem _ wd_348)) (fun _ h9 => h9) rfl dM_init_221 ?_
          refine lv_iload_n hx hb dM_init_224 rfl (lv_at hl 0 rfl) ?_
          refine lv_iconst (v := (-1)) hx hb dM_init_225 (by decide) ?_
          refine va_iast hx hb hK hP hD hS 14 13 rfl rfl (kk_inl (by decide)) dM_init_226 (fun H locs hP hD hS => ?_)
          rw [kk_c0] at hP hD
          have hP : va_P (dC, dI) vwCl [(h0, .inr (3, [.int slice, .int ceiling, .int 0, .int 0, .ref q17, .ref q25, .ref q33, .ref q41, .ref q49, .ref q57, .ref q65, .ref q73, .ref q81, .ref q89, .ref q97, .ref q105, .ref q113, .ref q120, .ref q127, .ref q134, .ref q142, .ref q150, .ref q158])), (q17, .inl (c17, 8, .inl (fun _ => 0))), (q25, .inl (c25, 8, .inl (fun _ => 0))), (q33, .inl (c33, 8, .inl (fun _ => 0))), (q41, .inl (c41, 8, .inl (fun _ => 0))), (q49, .inl (c49, 8, .inl (fun _ => 0))), (q57, .inl (c57, 8, .inl (fun _ => 0))), (q65, .inl (c65, 8, .inl (fun _ => 0))), (q73, .inl (c73, 8, .inl (fun _ => 0))), (q81, .inl (c81, 8, .inl (fun _ => 0))), (q89, .inl (c89, 8, .inl (fun _ => 0))), (q97, .inl (c97, 8, .inl (fun _ => 0))), (q105, .inl (c105, 8, .inl (fun _ => 0))), (q113, .inl (c113, 8, .inl (fun _ => 0))), (q120, .inl (c120, 4, .inl (upd (fun _ => 0) 0 (-1)))), (q127, .inl (c127, 2, .inl (fun _ => 0))), (q134, .inl (c134, 2, .inl (fun _ => 0))), (q142, .inl (c142, 8, .inl (fun _ => 0))), (q150, .inl (c150, 8, .inl (fun _ => 0))), (q158, .inl (c158, 8, .inl (fun _ => 0)))] H := hP
          have hD : va_D A [(h0, .inr (3, [.int slice, .int ceiling, .int 0, .int 0, .ref q17, .ref q25, .ref q33, .ref q41, .ref q49, .ref q57, .ref q65, .ref q73, .ref q81, .ref q89, .ref q97, .ref q105, .ref q113, .ref q120, .ref q127, .ref q134, .ref q142, .ref q150, .ref q158])), (q17, .inl (c17, 8, .inl (fun _ => 0))), (q25, .inl (c25, 8, .inl (fun _ => 0))), (q33, .inl (c33, 8, .inl (fun _ => 0))), (q41, .inl (c41, 8, .inl (fun _ => 0))), (q49, .inl (c49, 8, .inl (fun _ => 0))), (q57, .inl (c57, 8, .inl (fun _ => 0))), (q65, .inl (c65, 8, .inl (fun _ => 0))), (q73, .inl (c73, 8, .inl (fun _ => 0))), (q81, .inl (c81, 8, .inl (fun _ => 0))), (q89, .inl (c89, 8, .inl (fun _ => 0))), (q97, .inl (c97, 8, .inl (fun _ => 0))), (q105, .inl (c105, 8, .inl (fun _ => 0))), (q113, .inl (c113, 8, .inl (fun _ => 0))), (q120, .inl (c120, 4, .inl (upd (fun _ => 0) 0 (-1)))), (q127, .inl (c127, 2, .inl (fun _ => 0))), (q134, .inl (c134, 2, .inl (fun _ => 0))), (q142, .inl (c142, 8, .inl (fun _ => 0))), (q150, .inl (c150, 8, .inl (fun _ => 0))), (q158, .inl (c158, 8, .inl (fun _ => 0)))] := hD
          refine lv_iinc (v := 1) (lv' := [(3, .int 1), (0, .ref h0), (1, .int slice), (2, .int ceiling)]) hx hb dM_init_227 hl (k := 0) rfl (by decide) (by decide) rfl (fun ls hl => ?_)
          refine lv_goto (tgt := 215) hx hb dM_init_230 (by decide) ?_
          refine lv_iload_n hx hb dM_init_215 rfl (lv_at hl 0 rfl) ?_
          refine lv_iconst (v := 4) hx hb dM_init_216 (by decide) ?_
          refine lv_icmp_ge (tgt := 233) hx hb dM_init_217 (by decide) (fun c9 => absurd c9 (by decide)) (fun _ => ?_)
          refine lv_aload_n hx hb dM_init_220 rfl (lv_at hl 1 rfl) ?_
          refine va_get (D := (dC, dI)) (ci := 3) (v := .ref q120) (C := R_M) (T := T_M) (N := 23) hx hb hts uw_M hown hK hP 0 rfl rfl 17 (by decide) (hts _ (List.mem_cons_of_mem _ wd_348)) (fun _ h9 => h9) rfl dM_init_221 ?_
          refine lv_iload_n hx hb dM_init_224 rfl (lv_at hl 0 rfl) ?_
          refine lv_iconst (v := (-1)) hx hb dM_init_225 (by decide) ?_
          refine va_iast hx hb hK hP hD hS 14 13 rfl rfl (kk_inl (by decide)) dM_init_226 (fun H locs hP hD hS => ?_)
          rw [kk_c1] at hP hD
          have hP : va_P (dC, dI) vwCl [(h0, .inr (3, [.int slice, .int ceiling, .int 0, .int 0, .ref q17, .ref q25, .ref q33, .ref q41, .ref q49, .ref q57, .ref q65, .ref q73, .ref q81, .ref q89, .ref q97, .ref q105, .ref q113, .ref q120, .ref q127, .ref q134, .ref q142, .ref q150, .ref q158])), (q17, .inl (c17, 8, .inl (fun _ => 0))), (q25, .inl (c25, 8, .inl (fun _ => 0))), (q33, .inl (c33, 8, .inl (fun _ => 0))), (q41, .inl (c41, 8, .inl (fun _ => 0))), (q49, .inl (c49, 8, .inl (fun _ => 0))), (q57, .inl (c57, 8, .inl (fun _ => 0))), (q65, .inl (c65, 8, .inl (fun _ => 0))), (q73, .inl (c73, 8, .inl (fun _ => 0))), (q81, .inl (c81, 8, .inl (fun _ => 0))), (q89, .inl (c89, 8, .inl (fun _ => 0))), (q97, .inl (c97, 8, .inl (fun _ => 0))), (q105, .inl (c105, 8, .inl (fun _ => 0))), (q113, .inl (c113, 8, .inl (fun _ => 0))), (q120, .inl (c120, 4, .inl (upd (upd (fun _ => 0) 0 (-1)) 1 (-1)))), (q127, .inl (c127, 2, .inl (fun _ => 0))), (q134, .inl (c134, 2, .inl (fun _ => 0))), (q142, .inl (c142, 8, .inl (fun _ => 0))), (q150, .inl (c150, 8, .inl (fun _ => 0))), (q158, .inl (c158, 8, .inl (fun _ => 0)))] H := hP
          have hD : va_D A [(h0, .inr (3, [.int slice, .int ceiling, .int 0, .int 0, .ref q17, .ref q25, .ref q33, .ref q41, .ref q49, .ref q57, .ref q65, .ref q73, .ref q81, .ref q89, .ref q97, .ref q105, .ref q113, .ref q120, .ref q127, .ref q134, .ref q142, .ref q150, .ref q158])), (q17, .inl (c17, 8, .inl (fun _ => 0))), (q25, .inl (c25, 8, .inl (fun _ => 0))), (q33, .inl (c33, 8, .inl (fun _ => 0))), (q41, .inl (c41, 8, .inl (fun _ => 0))), (q49, .inl (c49, 8, .inl (fun _ => 0))), (q57, .inl (c57, 8, .inl (fun _ => 0))), (q65, .inl (c65, 8, .inl (fun _ => 0))), (q73, .inl (c73, 8, .inl (fun _ => 0))), (q81, .inl (c81, 8, .inl (fun _ => 0))), (q89, .inl (c89, 8, .inl (fun _ => 0))), (q97, .inl (c97, 8, .inl (fun _ => 0))), (q105, .inl (c105, 8, .inl (fun _ => 0))), (q113, .inl (c113, 8, .inl (fun _ => 0))), (q120, .inl (c120, 4, .inl (upd (upd (fun _ => 0) 0 (-1)) 1 (-1)))), (q127, .inl (c127, 2, .inl (fun _ => 0))), (q134, .inl (c134, 2, .inl (fun _ => 0))), (q142, .inl (c142, 8, .inl (fun _ => 0))), (q150, .inl (c150, 8, .inl (fun _ => 0))), (q158, .inl (c158, 8, .inl (fun _ => 0)))] := hD
          refine lv_iinc (v := 2) (lv' := [(3, .int 2), (0, .ref h0), (1, .int slice), (2, .int ceiling)]) hx hb dM_init_227 hl (k := 0) rfl (by decide) (by decide) rfl (fun ls hl => ?_)
          refine lv_goto (tgt := 215) hx hb dM_init_230 (by decide) ?_
          refine lv_iload_n hx hb dM_init_215 rfl (lv_at hl 0 rfl) ?_
          refine lv_iconst (v := 4) hx hb dM_init_216 (by decide) ?_
          refine lv_icmp_ge (tgt := 233) hx hb dM_init_217 (by decide) (fun c9 => absurd c9 (by decide)) (fun _ => ?_)
          refine lv_aload_n hx hb dM_init_220 rfl (lv_at hl 1 rfl) ?_
          refine va_get (D := (dC, dI)) (ci := 3) (v := .ref q120) (C := R_M) (T := T_M) (N := 23) hx hb hts uw_M hown hK hP 0 rfl rfl 17 (by decide) (hts _ (List.mem_cons_of_mem _ wd_348)) (fun _ h9 => h9) rfl dM_init_221 ?_
          refine lv_iload_n hx hb dM_init_224 rfl (lv_at hl 0 rfl) ?_
          refine lv_iconst (v := (-1)) hx hb dM_init_225 (by decide) ?_
          refine va_iast hx hb hK hP hD hS 14 13 rfl rfl (kk_inl (by decide)) dM_init_226 (fun H locs hP hD hS => ?_)
          rw [kk_c2] at hP hD
          have hP : va_P (dC, dI) vwCl [(h0, .inr (3, [.int slice, .int ceiling, .int 0, .int 0, .ref q17, .ref q25, .ref q33, .ref q41, .ref q49, .ref q57, .ref q65, .ref q73, .ref q81, .ref q89, .ref q97, .ref q105, .ref q113, .ref q120, .ref q127, .ref q134, .ref q142, .ref q150, .ref q158])), (q17, .inl (c17, 8, .inl (fun _ => 0))), (q25, .inl (c25, 8, .inl (fun _ => 0))), (q33, .inl (c33, 8, .inl (fun _ => 0))), (q41, .inl (c41, 8, .inl (fun _ => 0))), (q49, .inl (c49, 8, .inl (fun _ => 0))), (q57, .inl (c57, 8, .inl (fun _ => 0))), (q65, .inl (c65, 8, .inl (fun _ => 0))), (q73, .inl (c73, 8, .inl (fun _ => 0))), (q81, .inl (c81, 8, .inl (fun _ => 0))), (q89, .inl (c89, 8, .inl (fun _ => 0))), (q97, .inl (c97, 8, .inl (fun _ => 0))), (q105, .inl (c105, 8, .inl (fun _ => 0))), (q113, .inl (c113, 8, .inl (fun _ => 0))), (q120, .inl (c120, 4, .inl (upd (upd (upd (fun _ => 0) 0 (-1)) 1 (-1)) 2 (-1)))), (q127, .inl (c127, 2, .inl (fun _ => 0))), (q134, .inl (c134, 2, .inl (fun _ => 0))), (q142, .inl (c142, 8, .inl (fun _ => 0))), (q150, .inl (c150, 8, .inl (fun _ => 0))), (q158, .inl (c158, 8, .inl (fun _ => 0)))] H := hP
          have hD : va_D A [(h0, .inr (3, [.int slice, .int ceiling, .int 0, .int 0, .ref q17, .ref q25, .ref q33, .ref q41, .ref q49, .ref q57, .ref q65, .ref q73, .ref q81, .ref q89, .ref q97, .ref q105, .ref q113, .ref q120, .ref q127, .ref q134, .ref q142, .ref q150, .ref q158])), (q17, .inl (c17, 8, .inl (fun _ => 0))), (q25, .inl (c25, 8, .inl (fun _ => 0))), (q33, .inl (c33, 8, .inl (fun _ => 0))), (q41, .inl (c41, 8, .inl (fun _ => 0))), (q49, .inl (c49, 8, .inl (fun _ => 0))), (q57, .inl (c57, 8, .inl (fun _ => 0))), (q65, .inl (c65, 8, .inl (fun _ => 0))), (q73, .inl (c73, 8, .inl (fun _ => 0))), (q81, .inl (c81, 8, .inl (fun _ => 0))), (q89, .inl (c89, 8, .inl (fun _ => 0))), (q97, .inl (c97, 8, .inl (fun _ => 0))), (q105, .inl (c105, 8, .inl (fun _ => 0))), (q113, .inl (c113, 8, .inl (fun _ => 0))), (q120, .inl (c120, 4, .inl (upd (upd (upd (fun _ => 0) 0 (-1)) 1 (-1)) 2 (-1)))), (q127, .inl (c127, 2, .inl (fun _ => 0))), (q134, .inl (c134, 2, .inl (fun _ => 0))), (q142, .inl (c142, 8, .inl (fun _ => 0))), (q150, .inl (c150, 8, .inl (fun _ => 0))), (q158, .inl (c158, 8, .inl (fun _ => 0)))] := hD
          refine lv_iinc (v := 3) (lv' := [(3, .int 3), (0, .ref h0), (1, .int slice), (2, .int ceiling)]) hx hb dM_init_227 hl (k := 0) rfl (by decide) (by decide) rfl (fun ls hl => ?_)
          refine lv_goto (tgt := 215) hx hb dM_init_230 (by decide) ?_
          refine lv_iload_n hx hb dM_init_215 rfl (lv_at hl 0 rfl) ?_
          refine lv_iconst (v := 4) hx hb dM_init_216 (by decide) ?_
          refine lv_icmp_ge (tgt := 233) hx hb dM_init_217 (by decide) (fun c9 => absurd c9 (by decide)) (fun _ => ?_)
          refine lv_aload_n hx hb dM_init_220 rfl (lv_at hl 1 rfl) ?_
          refine va_get (D := (dC, dI)) (ci := 3) (v := .ref q120) (C := R_M) (T := T_M) (N := 23) hx hb hts uw_M hown hK hP 0 rfl rfl 17 (by decide) (hts _ (List.mem_cons_of_mem _ wd_348)) (fun _ h9 => h9) rfl dM_init_221 ?_
          refine lv_iload_n hx hb dM_init_224 rfl (lv_at hl 0 rfl) ?_
          refine lv_iconst (v := (-1)) hx hb dM_init_225 (by decide) ?_
          refine va_iast hx hb hK hP hD hS 14 13 rfl rfl (kk_inl (by decide)) dM_init_226 (fun H locs hP hD hS => ?_)
          rw [kk_c3] at hP hD
          have hP : va_P (dC, dI) vwCl [(h0, .inr (3, [.int slice, .int ceiling, .int 0, .int 0, .ref q17, .ref q25, .ref q33, .ref q41, .ref q49, .ref q57, .ref q65, .ref q73, .ref q81, .ref q89, .ref q97, .ref q105, .ref q113, .ref q120, .ref q127, .ref q134, .ref q142, .ref q150, .ref q158])), (q17, .inl (c17, 8, .inl (fun _ => 0))), (q25, .inl (c25, 8, .inl (fun _ => 0))), (q33, .inl (c33, 8, .inl (fun _ => 0))), (q41, .inl (c41, 8, .inl (fun _ => 0))), (q49, .inl (c49, 8, .inl (fun _ => 0))), (q57, .inl (c57, 8, .inl (fun _ => 0))), (q65, .inl (c65, 8, .inl (fun _ => 0))), (q73, .inl (c73, 8, .inl (fun _ => 0))), (q81, .inl (c81, 8, .inl (fun _ => 0))), (q89, .inl (c89, 8, .inl (fun _ => 0))), (q97, .inl (c97, 8, .inl (fun _ => 0))), (q105, .inl (c105, 8, .inl (fun _ => 0))), (q113, .inl (c113, 8, .inl (fun _ => 0))), (q120, .inl (c120, 4, .inl (upd (upd (upd (upd (fun _ => 0) 0 (-1)) 1 (-1)) 2 (-1)) 3 (-1)))), (q127, .inl (c127, 2, .inl (fun _ => 0))), (q134, .inl (c134, 2, .inl (fun _ => 0))), (q142, .inl (c142, 8, .inl (fun _ => 0))), (q150, .inl (c150, 8, .inl (fun _ => 0))), (q158, .inl (c158, 8, .inl (fun _ => 0)))] H := hP
          have hD : va_D A [(h0, .inr (3, [.int slice, .int ceiling, .int 0, .int 0, .ref q17, .ref q25, .ref q33, .ref q41, .ref q49, .ref q57, .ref q65, .ref q73, .ref q81, .ref q89, .ref q97, .ref q105, .ref q113, .ref q120, .ref q127, .ref q134, .ref q142, .ref q150, .ref q158])), (q17, .inl (c17, 8, .inl (fun _ => 0))), (q25, .inl (c25, 8, .inl (fun _ => 0))), (q33, .inl (c33, 8, .inl (fun _ => 0))), (q41, .inl (c41, 8, .inl (fun _ => 0))), (q49, .inl (c49, 8, .inl (fun _ => 0))), (q57, .inl (c57, 8, .inl (fun _ => 0))), (q65, .inl (c65, 8, .inl (fun _ => 0))), (q73, .inl (c73, 8, .inl (fun _ => 0))), (q81, .inl (c81, 8, .inl (fun _ => 0))), (q89, .inl (c89, 8, .inl (fun _ => 0))), (q97, .inl (c97, 8, .inl (fun _ => 0))), (q105, .inl (c105, 8, .inl (fun _ => 0))), (q113, .inl (c113, 8, .inl (fun _ => 0))), (q120, .inl (c120, 4, .inl (upd (upd (upd (upd (fun _ => 0) 0 (-1)) 1 (-1)) 2 (-1)) 3 (-1)))), (q127, .inl (c127, 2, .inl (fun _ => 0))), (q134, .inl (c134, 2, .inl (fun _ => 0))), (q142, .inl (c142, 8, .inl (fun _ => 0))), (q150, .inl (c150, 8, .inl (fun _ => 0))), (q158, .inl (c158, 8, .inl (fun _ => 0)))] := hD
          refine lv_iinc (v := 4) (lv' := [(3, .int 4), (0, .ref h0), (1, .int slice), (2, .int ceiling)]) hx hb dM_init_227 hl (k := 0) rfl (by decide) (by decide) rfl (fun ls hl => ?_)
          refine lv_goto (tgt := 215) hx hb dM_init_230 (by decide) ?_
          refine lv_iload_n hx hb dM_init_215 rfl (lv_at hl 0 rfl) ?_
          refine lv_iconst (v := 4) hx hb dM_init_216 (by decide) ?_
          refine lv_icmp_ge (tgt := 233) hx hb dM_init_217 (by decide) (fun _ => ?_) (fun c9 => absurd (by decide) c9)
          subst hf
          have hP9 := hP.sub (ws' := km_w (fun k => match k with | 0 => h0 | 1 => q17 | 2 => q25 | 3 => q33 | 4 => q41 | 5 => q49 | 6 => q57 | 7 => q65 | 8 => q73 | 9 => q81 | 10 => q89 | 11 => q97 | 12 => q105 | 13 => q113 | 14 => q120 | 15 => q127 | 16 => q134 | 17 => q142 | 18 => q150 | _ => q158) (fun k => match k with | 1 => c17 | 2 => c25 | 3 => c33 | 4 => c41 | 5 => c49 | 6 => c57 | 7 => c65 | 8 => c73 | 9 => c81 | 10 => c89 | 11 => c97 | 12 => c105 | 13 => c113 | 14 => c120 | 15 => c127 | 16 => c134 | 17 => c142 | 18 => c150 | _ => c158) (km_0 slice ceiling)) [0, 1, 2, 3, 4, 5, 6, 7, 8, 9, 10, 11, 12, 13, 14, 15, 16, 17, 18, 19] rfl
          have hD9 := hD.sub (ws' := km_w (fun k => match k with | 0 => h0 | 1 => q17 | 2 => q25 | 3 => q33 | 4 => q41 | 5 => q49 | 6 => q57 | 7 => q65 | 8 => q73 | 9 => q81 | 10 => q89 | 11 => q97 | 12 => q105 | 13 => q113 | 14 => q120 | 15 => q127 | 16 => q134 | 17 => q142 | 18 => q150 | _ => q158) (fun k => match k with | 1 => c17 | 2 => c25 | 3 => c33 | 4 => c41 | 5 => c49 | 6 => c57 | 7 => c65 | 8 => c73 | 9 => c81 | 10 => c89 | 11 => c97 | 12 => c105 | 13 => c113 | 14 => c120 | 15 => c127 | 16 => c134 | 17 => c142 | 18 => c150 | _ => c158) (km_0 slice ceiling)) [0, 1, 2, 3, 4, 5, 6, 7, 8, 9, 10, 11, 12, 13, 14, 15, 16, 17, 18, 19] (by decide) rfl
          have hK9 := hK.sub (tys' := km_t (fun k => match k with | 1 => c17 | 2 => c25 | 3 => c33 | 4 => c41 | 5 => c49 | 6 => c57 | 7 => c65 | 8 => c73 | 9 => c81 | 10 => c89 | 11 => c97 | 12 => c105 | 13 => c113 | 14 => c120 | 15 => c127 | 16 => c134 | 17 => c142 | 18 => c150 | _ => c158)) [0, 1, 2, 3, 4, 5, 6, 7, 8, 9, 10, 11, 12, 13, 14, 15, 16, 17, 18] rfl
          exact W.vret hx hb hr (fun t ht hW => ⟨⟨(fun k => match k with | 0 => h0 | 1 => q17 | 2 => q25 | 3 => q33 | 4 => q41 | 5 => q49 | 6 => q57 | 7 => q65 | 8 => q73 | 9 => q81 | 10 => q89 | 11 => q97 | 12 => q105 | 13 => q113 | 14 => q120 | 15 => q127 | 16 => q134 | 17 => q142 | 18 => q150 | _ => q158, fun k => match k with | 1 => c17 | 2 => c25 | 3 => c33 | 4 => c41 | 5 => c49 | 6 => c57 | 7 => c65 | 8 => c73 | 9 => c81 | 10 => c89 | 11 => c97 | 12 => c105 | 13 => c113 | 14 => c120 | 15 => c127 | 16 => c134 | 17 => c142 | 18 => c150 | _ => c158), rfl, rfl, by rw [ht]; exact hP9, va_K.moved hW.alike hK9, hD9⟩, hS.F ht⟩) hS.2.2 dM_init_233 hlocks
        · rw [if_neg c_201] at hf
          refine lv_bipush (v := 31) hx hb dM_init_204 (by decide) ?_
          refine lv_goto (tgt := 210) hx hb dM_init_206 (by decide) ?_
          refine va_putF (D := (dC, dI)) (ci := 3) (v := .int 31) (ty := .int) (C := R_M) (T := T_M) (N := 23) hx hb hts uw_M ty_M ty_M_ok nm_M hown hK hP hD hS 0 rfl rfl 1 (by decide) (hts _ (List.mem_cons_of_mem _ wd_332)) (fun _ h9 => h9) rfl hin rfl (by decide +kernel) rfl rfl (Nat.le_of_ble_eq_true rfl) dM_init_210 (fun H locs hP hD hS => ?_)
          have hP : va_P (dC, dI) vwCl [(h0, .inr (3, [.int slice, .int 31, .int 0, .int 0, .ref q17, .ref q25, .ref q33, .ref q41, .ref q49, .ref q57, .ref q65, .ref q73, .ref q81, .ref q89, .ref q97, .ref q105, .ref q113, .ref q120, .ref q127, .ref q134, .ref q142, .ref q150, .ref q158])), (q17, .inl (c17, 8, .inl (fun _ => 0))), (q25, .inl (c25, 8, .inl (fun _ => 0))), (q33, .inl (c33, 8, .inl (fun _ => 0))), (q41, .inl (c41, 8, .inl (fun _ => 0))), (q49, .inl (c49, 8, .inl (fun _ => 0))), (q57, .inl (c57, 8, .inl (fun _ => 0))), (q65, .inl (c65, 8, .inl (fun _ => 0))), (q73, .inl (c73, 8, .inl (fun _ => 0))), (q81, .inl (c81, 8, .inl (fun _ => 0))), (q89, .inl (c89, 8, .inl (fun _ => 0))), (q97, .inl (c97, 8, .inl (fun _ => 0))), (q105, .inl (c105, 8, .inl (fun _ => 0))), (q113, .inl (c113, 8, .inl (fun _ => 0))), (q120, .inl (c120, 4, .inl (fun _ => 0))), (q127, .inl (c127, 2, .inl (fun _ => 0))), (q134, .inl (c134, 2, .inl (fun _ => 0))), (q142, .inl (c142, 8, .inl (fun _ => 0))), (q150, .inl (c150, 8, .inl (fun _ => 0))), (q158, .inl (c158, 8, .inl (fun _ => 0)))] H := hP
          have hD : va_D A [(h0, .inr (3, [.int slice, .int 31, .int 0, .int 0, .ref q17, .ref q25, .ref q33, .ref q41, .ref q49, .ref q57, .ref q65, .ref q73, .ref q81, .ref q89, .ref q97, .ref q105, .ref q113, .ref q120, .ref q127, .ref q134, .ref q142, .ref q150, .ref q158])), (q17, .inl (c17, 8, .inl (fun _ => 0))), (q25, .inl (c25, 8, .inl (fun _ => 0))), (q33, .inl (c33, 8, .inl (fun _ => 0))), (q41, .inl (c41, 8, .inl (fun _ => 0))), (q49, .inl (c49, 8, .inl (fun _ => 0))), (q57, .inl (c57, 8, .inl (fun _ => 0))), (q65, .inl (c65, 8, .inl (fun _ => 0))), (q73, .inl (c73, 8, .inl (fun _ => 0))), (q81, .inl (c81, 8, .inl (fun _ => 0))), (q89, .inl (c89, 8, .inl (fun _ => 0))), (q97, .inl (c97, 8, .inl (fun _ => 0))), (q105, .inl (c105, 8, .inl (fun _ => 0))), (q113, .inl (c113, 8, .inl (fun _ => 0))), (q120, .inl (c120, 4, .inl (fun _ => 0))), (q127, .inl (c127, 2, .inl (fun _ => 0))), (q134, .inl (c134, 2, .inl (fun _ => 0))), (q142, .inl (c142, 8, .inl (fun _ => 0))), (q150, .inl (c150, 8, .inl (fun _ => 0))), (q158, .inl (c158, 8, .inl (fun _ => 0)))] := hD
          refine lv_iconst (v := 0) hx hb dM_init_213 (by decide) ?_
          refine lv_istore_n (lv' := [(3, .int 0), (0, .ref h0), (1, .int slice), (2, .int ceiling)]) hx hb dM_init_214 rfl hl (by decide) rfl (fun ls hl => ?_)
          refine lv_iload_n hx hb dM_init_215 rfl (lv_at hl 0 rfl) ?_
          refine lv_iconst (v := 4) hx hb dM_init_216 (by decide) ?_
          refine lv_icmp_ge (tgt := 233) hx hb dM_init_217 (by decide) (fun c9 => absurd c9 (by decide)) (fun _ => ?_)
          refine lv_aload_n hx hb dM_init_220 rfl (lv_at hl 1 rfl) ?_
          refine va_get (D := (dC, dI)) (ci := 3) (v := .ref q120) (C := R_M) (T := T_M) (N := 23) hx hb hts uw_M hown hK hP 0 rfl rfl 17 (by decide) (hts _ (List.mem_cons_of_mem _ wd_348)) (fun _ h9 => h9) rfl dM_init_221 ?_
          refine lv_iload_n hx hb dM_init_224 rfl (lv_at hl 0 rfl) ?_
          refine lv_iconst (v := (-1)) hx hb dM_init_225 (by decide) ?_
          refine va_iast hx hb hK hP hD hS 14 13 rfl rfl (kk_inl (by decide)) dM_init_226 (fun H locs hP hD hS => ?_)
          rw [kk_c0] at hP hD
          have hP : va_P (dC, dI) vwCl [(h0, .inr (3, [.int slice, .int 31, .int 0, .int 0, .ref q17, .ref q25, .ref q33, .ref q41, .ref q49, .ref q57, .ref q65, .ref q73, .ref q81, .ref q89, .ref q97, .ref q105, .ref q113, .ref q120, .ref q127, .ref q134, .ref q142, .ref q150, .ref q158])), (q17, .inl (c17, 8, .inl (fun _ => 0))), (q25, .inl (c25, 8, .inl (fun _ => 0))), (q33, .inl (c33, 8, .inl (fun _ => 0))), (q41, .inl (c41, 8, .inl (fun _ => 0))), (q49, .inl (c49, 8, .inl (fun _ => 0))), (q57, .inl (c57, 8, .inl (fun _ => 0))), (q65, .inl (c65, 8, .inl (fun _ => 0))), (q73, .inl (c73, 8, .inl (fun _ => 0))), (q81, .inl (c81, 8, .inl (fun _ => 0))), (q89, .inl (c89, 8, .inl (fun _ => 0))), (q97, .inl (c97, 8, .inl (fun _ => 0))), (q105, .inl (c105, 8, .inl (fun _ => 0))), (q113, .inl (c113, 8, .inl (fun _ => 0))), (q120, .inl (c120, 4, .inl (upd (fun _ => 0) 0 (-1)))), (q127, .inl (c127, 2, .inl (fun _ => 0))), (q134, .inl (c134, 2, .inl (fun _ => 0))), (q142, .inl (c142, 8, .inl (fun _ => 0))), (q150, .inl (c150, 8, .inl (fun _ => 0))), (q158, .inl (c158, 8, .inl (fun _ => 0)))] H := hP
          have hD : va_D A [(h0, .inr (3, [.int slice, .int 31, .int 0, .int 0, .ref q17, .ref q25, .ref q33, .ref q41, .ref q49, .ref q57, .ref q65, .ref q73, .ref q81, .ref q89, .ref q97, .ref q105, .ref q113, .ref q120, .ref q127, .ref q134, .ref q142, .ref q150, .ref q158])), (q17, .inl (c17, 8, .inl (fun _ => 0))), (q25, .inl (c25, 8, .inl (fun _ => 0))), (q33, .inl (c33, 8, .inl (fun _ => 0))), (q41, .inl (c41, 8, .inl (fun _ => 0))), (q49, .inl (c49, 8, .inl (fun _ => 0))), (q57, .inl (c57, 8, .inl (fun _ => 0))), (q65, .inl (c65, 8, .inl (fun _ => 0))), (q73, .inl (c73, 8, .inl (fun _ => 0))), (q81, .inl (c81, 8, .inl (fun _ => 0))), (q89, .inl (c89, 8, .inl (fun _ => 0))), (q97, .inl (c97, 8, .inl (fun _ => 0))), (q105, .inl (c105, 8, .inl (fun _ => 0))), (q113, .inl (c113, 8, .inl (fun _ => 0))), (q120, .inl (c120, 4, .inl (upd (fun _ => 0) 0 (-1)))), (q127, .inl (c127, 2, .inl (fun _ => 0))), (q134, .inl (c134, 2, .inl (fun _ => 0))), (q142, .inl (c142, 8, .inl (fun _ => 0))), (q150, .inl (c150, 8, .inl (fun _ => 0))), (q158, .inl (c158, 8, .inl (fun _ => 0)))] := hD
          refine lv_iinc (v := 1) (lv' := [(3, .int 1), (0, .ref h0), (1, .int slice), (2, .int ceiling)]) hx hb dM_init_227 hl (k := 0) rfl (by decide) (by decide) rfl (fun ls hl => ?_)
          refine lv_goto (tgt := 215) hx hb dM_init_230 (by decide) ?_
          refine lv_iload_n hx hb dM_init_215 rfl (lv_at hl 0 rfl) ?_
          refine lv_iconst (v := 4) hx hb dM_init_216 (by decide) ?_
          refine lv_icmp_ge (tgt := 233) hx hb dM_init_217 (by decide) (fun c9 => absurd c9 (by decide)) (fun _ => ?_)
          refine lv_aload_n hx hb dM_init_220 rfl (lv_at hl 1 rfl) ?_
          refine va_get (D := (dC, dI)) (ci := 3) (v := .ref q120) (C := R_M) (T := T_M) (N := 23) hx hb hts uw_M hown hK hP 0 rfl rfl 17 (by decide) (hts _ (List.mem_cons_of_mem _ wd_348)) (fun _ h9 => h9) rfl dM_init_221 ?_
          refine lv_iload_n hx hb dM_init_224 rfl (lv_at hl 0 rfl) ?_
          refine lv_iconst (v := (-1)) hx hb dM_init_225 (by decide) ?_
          refine va_iast hx hb hK hP hD hS 14 13 rfl rfl (kk_inl (by decide)) dM_init_226 (fun H locs hP hD hS => ?_)
          rw [kk_c1] at hP hD
          have hP : va_P (dC, dI) vwCl [(h0, .inr (3, [.int slice, .int 31, .int 0, .int 0, .ref q17, .ref q25, .ref q33, .ref q41, .ref q49, .ref q57, .ref q65, .ref q73, .ref q81, .ref q89, .ref q97, .ref q105, .ref q113, .ref q120, .ref q127, .ref q134, .ref q142, .ref q150, .ref q158])), (q17, .inl (c17, 8, .inl (fun _ => 0))), (q25, .inl (c25, 8, .inl (fun _ => 0))), (q33, .inl (c33, 8, .inl (fun _ => 0))), (q41, .inl (c41, 8, .inl (fun _ => 0))), (q49, .inl (c49, 8, .inl (fun _ => 0))), (q57, .inl (c57, 8, .inl (fun _ => 0))), (q65, .inl (c65, 8, .inl (fun _ => 0))), (q73, .inl (c73, 8, .inl (fun _ => 0))), (q81, .inl (c81, 8, .inl (fun _ => 0))), (q89, .inl (c89, 8, .inl (fun _ => 0))), (q97, .inl (c97, 8, .inl (fun _ => 0))), (q105, .inl (c105, 8, .inl (fun _ => 0))), (q113, .inl (c113, 8, .inl (fun _ => 0))), (q120, .inl (c120, 4, .inl (upd (upd (fun _ => 0) 0 (-1)) 1 (-1)))), (q127, .inl (c127, 2, .inl (fun _ => 0))), (q134, .inl (c134, 2, .inl (fun _ => 0))), (q142, .inl (c142, 8, .inl (fun _ => 0))), (q150, .inl (c150, 8, .inl (fun _ => 0))), (q158, .inl (c158, 8, .inl (fun _ => 0)))] H := hP
          have hD : va_D A [(h0, .inr (3, [.int slice, .int 31, .int 0, .int 0, .ref q17, .ref q25, .ref q33, .ref q41, .ref q49, .ref q57, .ref q65, .ref q73, .ref q81, .ref q89, .ref q97, .ref q105, .ref q113, .ref q120, .ref q127, .ref q134, .ref q142, .ref q150, .ref q158])), (q17, .inl (c17, 8, .inl (fun _ => 0))), (q25, .inl (c25, 8, .inl (fun _ => 0))), (q33, .inl (c33, 8, .inl (fun _ => 0))), (q41, .inl (c41, 8, .inl (fun _ => 0))), (q49, .inl (c49, 8, .inl (fun _ => 0))), (q57, .inl (c57, 8, .inl (fun _ => 0))), (q65, .inl (c65, 8, .inl (fun _ => 0))), (q73, .inl (c73, 8, .inl (fun _ => 0))), (q81, .inl (c81, 8, .inl (fun _ => 0))), (q89, .inl (c89, 8, .inl (fun _ => 0))), (q97, .inl (c97, 8, .inl (fun _ => 0))), (q105, .inl (c105, 8, .inl (fun _ => 0))), (q113, .inl (c113, 8, .inl (fun _ => 0))), (q120, .inl (c120, 4, .inl (upd (upd (fun _ => 0) 0 (-1)) 1 (-1)))), (q127, .inl (c127, 2, .inl (fun _ => 0))), (q134, .inl (c134, 2, .inl (fun _ => 0))), (q142, .inl (c142, 8, .inl (fun _ => 0))), (q150, .inl (c150, 8, .inl (fun _ => 0))), (q158, .inl (c158, 8, .inl (fun _ => 0)))] := hD
          refine lv_iinc (v := 2) (lv' := [(3, .int 2), (0, .ref h0), (1, .int slice), (2, .int ceiling)]) hx hb dM_init_227 hl (k := 0) rfl (by decide) (by decide) rfl (fun ls hl => ?_)
          refine lv_goto (tgt := 215) hx hb dM_init_230 (by decide) ?_
          refine lv_iload_n hx hb dM_init_215 rfl (lv_at hl 0 rfl) ?_
          refine lv_iconst (v := 4) hx hb dM_init_216 (by decide) ?_
          refine lv_icmp_ge (tgt := 233) hx hb dM_init_217 (by decide) (fun c9 => absurd c9 (by decide)) (fun _ => ?_)
          refine lv_aload_n hx hb dM_init_220 rfl (lv_at hl 1 rfl) ?_
          refine va_get (D := (dC, dI)) (ci := 3) (v := .ref q120) (C := R_M) (T := T_M) (N := 23) hx hb hts uw_M hown hK hP 0 rfl rfl 17 (by decide) (hts _ (List.mem_cons_of_mem _ wd_348)) (fun _ h9 => h9) rfl dM_init_221 ?_
          refine lv_iload_n hx hb dM_init_224 rfl (lv_at hl 0 rfl) ?_
          refine lv_iconst (v := (-1)) hx hb dM_init_225 (by decide) ?_
          refine va_iast hx hb hK hP hD hS 14 13 rfl rfl (kk_inl (by decide)) dM_init_226 (fun H locs hP hD hS => ?_)
          rw [kk_c2] at hP hD
          have hP : va_P (dC, dI) vwCl [(h0, .inr (3, [.int slice, .int 31, .int 0, .int 0, .ref q17, .ref q25, .ref q33, .ref q41, .ref q49, .ref q57, .ref q65, .ref q73, .ref q81, .ref q89, .ref q97, .ref q105, .ref q113, .ref q120, .ref q127, .ref q134, .ref q142, .ref q150, .ref q158])), (q17, .inl (c17, 8, .inl (fun _ => 0))), (q25, .inl (c25, 8, .inl (fun _ => 0))), (q33, .inl (c33, 8, .inl (fun _ => 0))), (q41, .inl (c41, 8, .inl (fun _ => 0))), (q49, .inl (c49, 8, .inl (fun _ => 0))), (q57, .inl (c57, 8, .inl (fun _ => 0))), (q65, .inl (c65, 8, .inl (fun _ => 0))), (q73, .inl (c73, 8, .inl (fun _ => 0))), (q81, .inl (c81, 8, .inl (fun _ => 0))), (q89, .inl (c89, 8, .inl (fun _ => 0))), (q97, .inl (c97, 8, .inl (fun _ => 0))), (q105, .inl (c105, 8, .inl (fun _ => 0))), (q113, .inl (c113, 8, .inl (fun _ => 0))), (q120, .inl (c120, 4, .inl (upd (upd (upd (fun _ => 0) 0 (-1)) 1 (-1)) 2 (-1)))), (q127, .inl (c127, 2, .inl (fun _ => 0))), (q134, .inl (c134, 2, .inl (fun _ => 0))), (q142, .inl (c142, 8, .inl (fun _ => 0))), (q150, .inl (c150, 8, .inl (fun _ => 0))), (q158, .inl (c158, 8, .inl (fun _ => 0)))] H := hP
          have hD : va_D A [(h0, .inr (3, [.int slice, .int 31, .int 0, .int 0, .ref q17, .ref q25, .ref q33, .ref q41, .ref q49, .ref q57, .ref q65, .ref q73, .ref q81, .ref q89, .ref q97, .ref q105, .ref q113, .ref q120, .ref q127, .ref q134, .ref q142, .ref q150, .ref q158])), (q17, .inl (c17, 8, .inl (fun _ => 0))), (q25, .inl (c25, 8, .inl (fun _ => 0))), (q33, .inl (c33, 8, .inl (fun _ => 0))), (q41, .inl (c41, 8, .inl (fun _ => 0))), (q49, .inl (c49, 8, .inl (fun _ => 0))), (q57, .inl (c57, 8, .inl (fun _ => 0))), (q65, .inl (c65, 8, .inl (fun _ => 0))), (q73, .inl (c73, 8, .inl (fun _ => 0))), (q81, .inl (c81, 8, .inl (fun _ => 0))), (q89, .inl (c89, 8, .inl (fun _ => 0))), (q97, .inl (c97, 8, .inl (fun _ => 0))), (q105, .inl (c105, 8, .inl (fun _ => 0))), (q113, .inl (c113, 8, .inl (fun _ => 0))), (q120, .inl (c120, 4, .inl (upd (upd (upd (fun _ => 0) 0 (-1)) 1 (-1)) 2 (-1)))), (q127, .inl (c127, 2, .inl (fun _ => 0))), (q134, .inl (c134, 2, .inl (fun _ => 0))), (q142, .inl (c142, 8, .inl (fun _ => 0))), (q150, .inl (c150, 8, .inl (fun _ => 0))), (q158, .inl (c158, 8, .inl (fun _ => 0)))] := hD
          refine lv_iinc (v := 3) (lv' := [(3, .int 3), (0, .ref h0), (1, .int slice), (2, .int ceiling)]) hx hb dM_init_227 hl (k := 0) rfl (by decide) (by decide) rfl (fun ls hl => ?_)
          refine lv_goto (tgt := 215) hx hb dM_init_230 (by decide) ?_
          refine lv_iload_n hx hb dM_init_215 rfl (lv_at hl 0 rfl) ?_
          refine lv_iconst (v := 4) hx hb dM_init_216 (by decide) ?_
          refine lv_icmp_ge (tgt := 233) hx hb dM_init_217 (by decide) (fun c9 => absurd c9 (by decide)) (fun _ => ?_)
          refine lv_aload_n hx hb dM_init_220 rfl (lv_at hl 1 rfl) ?_
          refine va_get (D := (dC, dI)) (ci := 3) (v := .ref q120) (C := R_M) (T := T_M) (N := 23) hx hb hts uw_M hown hK hP 0 rfl rfl 17 (by decide) (hts _ (List.mem_cons_of_mem _ wd_348)) (fun _ h9 => h9) rfl dM_init_221 ?_
          refine lv_iload_n hx hb dM_init_224 rfl (lv_at hl 0 rfl) ?_
          refine lv_iconst (v := (-1)) hx hb dM_init_225 (by decide) ?_
          refine va_iast hx hb hK hP hD hS 14 13 rfl rfl (kk_inl (by decide)) dM_init_226 (fun H locs hP hD hS => ?_)
          rw [kk_c3] at hP hD
          have hP : va_P (dC, dI) vwCl [(h0, .inr (3, [.int slice, .int 31, .int 0, .int 0, .ref q17, .ref q25, .ref q33, .ref q41, .ref q49, .ref q57, .ref q65, .ref q73, .ref q81, .ref q89, .ref q97, .ref q105, .ref q113, .ref q120, .ref q127, .ref q134, .ref q142, .ref q150, .ref q158])), (q17, .inl (c17, 8, .inl (fun _ => 0))), (q25, .inl (c25, 8, .inl (fun _ => 0))), (q33, .inl (c33, 8, .inl (fun _ => 0))), (q41, .inl (c41, 8, .inl (fun _ => 0))), (q49, .inl (c49, 8, .inl (fun _ => 0))), (q57, .inl (c57, 8, .inl (fun _ => 0))), (q65, .inl (c65, 8, .inl (fun _ => 0))), (q73, .inl (c73, 8, .inl (fun _ => 0))), (q81, .inl (c81, 8, .inl (fun _ => 0))), (q89, .inl (c89, 8, .inl (fun _ => 0))), (q97, .inl (c97, 8, .inl (fun _ => 0))), (q105, .inl (c105, 8, .inl (fun _ => 0))), (q113, .inl (c113, 8, .inl (fun _ => 0))), (q120, .inl (c120, 4, .inl (upd (upd (upd (upd (fun _ => 0) 0 (-1)) 1 (-1)) 2 (-1)) 3 (-1)))), (q127, .inl (c127, 2, .inl (fun _ => 0))), (q134, .inl (c134, 2, .inl (fun _ => 0))), (q142, .inl (c142, 8, .inl (fun _ => 0))), (q150, .inl (c150, 8, .inl (fun _ => 0))), (q158, .inl (c158, 8, .inl (fun _ => 0)))] H := hP
          have hD : va_D A [(h0, .inr (3, [.int slice, .int 31, .int 0, .int 0, .ref q17, .ref q25, .ref q33, .ref q41, .ref q49, .ref q57, .ref q65, .ref q73, .ref q81, .ref q89, .ref q97, .ref q105, .ref q113, .ref q120, .ref q127, .ref q134, .ref q142, .ref q150, .ref q158])), (q17, .inl (c17, 8, .inl (fun _ => 0))), (q25, .inl (c25, 8, .inl (fun _ => 0))), (q33, .inl (c33, 8, .inl (fun _ => 0))), (q41, .inl (c41, 8, .inl (fun _ => 0))), (q49, .inl (c49, 8, .inl (fun _ => 0))), (q57, .inl (c57, 8, .inl (fun _ => 0))), (q65, .inl (c65, 8, .inl (fun _ => 0))), (q73, .inl (c73, 8, .inl (fun _ => 0))), (q81, .inl (c81, 8, .inl (fun _ => 0))), (q89, .inl (c89, 8, .inl (fun _ => 0))), (q97, .inl (c97, 8, .inl (fun _ => 0))), (q105, .inl (c105, 8, .inl (fun _ => 0))), (q113, .inl (c113, 8, .inl (fun _ => 0))), (q120, .inl (c120, 4, .inl (upd (upd (upd (upd (fun _ => 0) 0 (-1)) 1 (-1)) 2 (-1)) 3 (-1)))), (q127, .inl (c127, 2, .inl (fun _ => 0))), (q134, .inl (c134, 2, .inl (fun _ => 0))), (q142, .inl (c142, 8, .inl (fun _ => 0))), (q150, .inl (c150, 8, .inl (fun _ => 0))), (q158, .inl (c158, 8, .inl (fun _ => 0)))] := hD
          refine lv_iinc (v := 4) (lv' := [(3, .int 4), (0, .ref h0), (1, .int slice), (2, .int ceiling)]) hx hb dM_init_227 hl (k := 0) rfl (by decide) (by decide) rfl (fun ls hl => ?_)
          refine lv_goto (tgt := 215) hx hb dM_init_230 (by decide) ?_
          refine lv_iload_n hx hb dM_init_215 rfl (lv_at hl 0 rfl) ?_
          refine lv_iconst (v := 4) hx hb dM_init_216 (by decide) ?_
          refine lv_icmp_ge (tgt := 233) hx hb dM_init_217 (by decide) (fun _ => ?_) (fun c9 => absurd (by decide) c9)
          subst hf
          have hP9 := hP.sub (ws' := km_w (fun k => match k with | 0 => h0 | 1 => q17 | 2 => q25 | 3 => q33 | 4 => q41 | 5 => q49 | 6 => q57 | 7 => q65 | 8 => q73 | 9 => q81 | 10 => q89 | 11 => q97 | 12 => q105 | 13 => q113 | 14 => q120 | 15 => q127 | 16 => q134 | 17 => q142 | 18 => q150 | _ => q158) (fun k => match k with | 1 => c17 | 2 => c25 | 3 => c33 | 4 => c41 | 5 => c49 | 6 => c57 | 7 => c65 | 8 => c73 | 9 => c81 | 10 => c89 | 11 => c97 | 12 => c105 | 13 => c113 | 14 => c120 | 15 => c127 | 16 => c134 | 17 => c142 | 18 => c150 | _ => c158) (km_0 slice 31)) [0, 1, 2, 3, 4, 5, 6, 7, 8, 9, 10, 11, 12, 13, 14, 15, 16, 17, 18, 19] rfl
          have hD9 := hD.sub (ws' := km_w (fun k => match k with | 0 => h0 | 1 => q17 | 2 => q25 | 3 => q33 | 4 => q41 | 5 => q49 | 6 => q57 | 7 => q65 | 8 => q73 | 9 => q81 | 10 => q89 | 11 => q97 | 12 => q105 | 13 => q113 | 14 => q120 | 15 => q127 | 16 => q134 | 17 => q142 | 18 => q150 | _ => q158) (fun k => match k with | 1 => c17 | 2 => c25 | 3 => c33 | 4 => c41 | 5 => c49 | 6 => c57 | 7 => c65 | 8 => c73 | 9 => c81 | 10 => c89 | 11 => c97 | 12 => c105 | 13 => c113 | 14 => c120 | 15 => c127 | 16 => c134 | 17 => c142 | 18 => c150 | _ => c158) (km_0 slice 31)) [0, 1, 2, 3, 4, 5, 6, 7, 8, 9, 10, 11, 12, 13, 14, 15, 16, 17, 18, 19] (by decide) rfl
          have hK9 := hK.sub (tys' := km_t (fun k => match k with | 1 => c17 | 2 => c25 | 3 => c33 | 4 => c41 | 5 => c49 | 6 => c57 | 7 => c65 | 8 => c73 | 9 => c81 | 10 => c89 | 11 => c97 | 12 => c105 | 13 => c113 | 14 => c120 | 15 => c127 | 16 => c134 | 17 => c142 | 18 => c150 | _ => c158)) [0, 1, 2, 3, 4, 5, 6, 7, 8, 9, 10, 11, 12, 13, 14, 15, 16, 17, 18] rfl
          exact W.vret hx hb hr (fun t ht hW => ⟨⟨(fun k => match k with | 0 => h0 | 1 => q17 | 2 => q25 | 3 => q33 | 4 => q41 | 5 => q49 | 6 => q57 | 7 => q65 | 8 => q73 | 9 => q81 | 10 => q89 | 11 => q97 | 12 => q105 | 13 => q113 | 14 => q120 | 15 => q127 | 16 => q134 | 17 => q142 | 18 => q150 | _ => q158, fun k => match k with | 1 => c17 | 2 => c25 | 3 => c33 | 4 => c41 | 5 => c49 | 6 => c57 | 7 => c65 | 8 => c73 | 9 => c81 | 10 => c89 | 11 => c97 | 12 => c105 | 13 => c113 | 14 => c120 | 15 => c127 | 16 => c134 | 17 => c142 | 18 => c150 | _ => c158), rfl, rfl, by rw [ht]; exact hP9, va_K.moved hW.alike hK9, hD9⟩, hS.F ht⟩) hS.2.2 dM_init_233 hlocks
      · rw [if_neg c_191] at hf
        refine lv_iconst (v := 1) hx hb dM_init_194 (by decide) ?_
        refine lv_goto (tgt := 210) hx hb dM_init_195 (by decide) ?_
        refine va_putF (D := (dC, dI)) (ci := 3) (v := .int 1) (ty := .int) (C := R_M) (T := T_M) (N := 23) hx hb hts uw_M ty_M ty_M_ok nm_M hown hK hP hD hS 0 rfl rfl 1 (by decide) (hts _ (List.mem_cons_of_mem _ wd_332)) (fun _ h9 => h9) rfl hin rfl (by decide +kernel) rfl rfl (Nat.le_of_ble_eq_true rfl) dM_init_210 (fun H locs hP hD hS => ?_)
        have hP : va_P (dC, dI) vwCl [(h0, .inr (3, [.int slice, .int 1, .int 0, .int 0, .ref q17, .ref q25, .ref q33, .ref q41, .ref q49, .ref q57, .ref q65, .ref q73, .ref q81, .ref q89, .ref q97, .ref q105, .ref q113, .ref q120, .ref q127, .ref q134, .ref q142, .ref q150, .ref q158])), (q17, .inl (c17, 8, .inl (fun _ => 0))), (q25, .inl (c25, 8, .inl (fun _ => 0))), (q33, .inl (c33, 8, .inl (fun _ => 0))), (q41, .inl (c41, 8, .inl (fun _ => 0))), (q49, .inl (c49, 8, .inl (fun _ => 0))), (q57, .inl (c57, 8, .inl (fun _ => 0))), (q65, .inl (c65, 8, .inl (fun _ => 0))), (q73, .inl (c73, 8, .inl (fun _ => 0))), (q81, .inl (c81, 8, .inl (fun _ => 0))), (q89, .inl (c89, 8, .inl (fun _ => 0))), (q97, .inl (c97, 8, .inl (fun _ => 0))), (q105, .inl (c105, 8, .inl (fun _ => 0))), (q113, .inl (c113, 8, .inl (fun _ => 0))), (q120, .inl (c120, 4, .inl (fun _ => 0))), (q127, .inl (c127, 2, .inl (fun _ => 0))), (q134, .inl (c134, 2, .inl (fun _ => 0))), (q142, .inl (c142, 8, .inl (fun _ => 0))), (q150, .inl (c150, 8, .inl (fun _ => 0))), (q158, .inl (c158, 8, .inl (fun _ => 0)))] H := hP
        have hD : va_D A [(h0, .inr (3, [.int slice, .int 1, .int 0, .int 0, .ref q17, .ref q25, .ref q33, .ref q41, .ref q49, .ref q57, .ref q65, .ref q73, .ref q81, .ref q89, .ref q97, .ref q105, .ref q113, .ref q120, .ref q127, .ref q134, .ref q142, .ref q150, .ref q158])), (q17, .inl (c17, 8, .inl (fun _ => 0))), (q25, .inl (c25, 8, .inl (fun _ => 0))), (q33, .inl (c33, 8, .inl (fun _ => 0))), (q41, .inl (c41, 8, .inl (fun _ => 0))), (q49, .inl (c49, 8, .inl (fun _ => 0))), (q57, .inl (c57, 8, .inl (fun _ => 0))), (q65, .inl (c65, 8, .inl (fun _ => 0))), (q73, .inl (c73, 8, .inl (fun _ => 0))), (q81, .inl (c81, 8, .inl (fun _ => 0))), (q89, .inl (c89, 8, .inl (fun _ => 0))), (q97, .inl (c97, 8, .inl (fun _ => 0))), (q105, .inl (c105, 8, .inl (fun _ => 0))), (q113, .inl (c113, 8, .inl (fun _ => 0))), (q120, .inl (c120, 4, .inl (fun _ => 0))), (q127, .inl (c127, 2, .inl (fun _ => 0))), (q134, .inl (c134, 2, .inl (fun _ => 0))), (q142, .inl (c142, 8, .inl (fun _ => 0))), (q150, .inl (c150, 8, .inl (fun _ => 0))), (q158, .inl (c158, 8, .inl (fun _ => 0)))] := hD
        refine lv_iconst (v := 0) hx hb dM_init_213 (by decide) ?_
        refine lv_istore_n (lv' := [(3, .int 0), (0, .ref h0), (1, .int slice), (2, .int ceiling)]) hx hb dM_init_214 rfl hl (by decide) rfl (fun ls hl => ?_)
        refine lv_iload_n hx hb dM_init_215 rfl (lv_at hl 0 rfl) ?_
        refine lv_iconst (v := 4) hx hb dM_init_216 (by decide) ?_
        refine lv_icmp_ge (tgt := 233) hx hb dM_init_217 (by decide) (fun c9 => absurd c9 (by decide)) (fun _ => ?_)
        refine lv_aload_n hx hb dM_init_220 rfl (lv_at hl 1 rfl) ?_
        refine va_get (D := (dC, dI)) (ci := 3) (v := .ref q120) (C := R_M) (T := T_M) (N := 23) hx hb hts uw_M hown hK hP 0 rfl rfl 17 (by decide) (hts _ (List.mem_cons_of_mem _ wd_348)) (fun _ h9 => h9) rfl dM_init_221 ?_
        refine lv_iload_n hx hb dM_init_224 rfl (lv_at hl 0 rfl) ?_
        refine lv_iconst (v := (-1)) hx hb dM_init_225 (by decide) ?_
        refine va_iast hx hb hK hP hD hS 14 13 rfl rfl (kk_inl (by decide)) dM_init_226 (fun H locs hP hD hS => ?_)
        rw [kk_c0] at hP hD
        have hP : va_P (dC, dI) vwCl [(h0, .inr (3, [.int slice, .int 1, .int 0, .int 0, .ref q17, .ref q25, .ref q33, .ref q41, .ref q49, .ref q57, .ref q65, .ref q73, .ref q81, .ref q89, .ref q97, .ref q105, .ref q113, .ref q120, .ref q127, .ref q134, .ref q142, .ref q150, .ref q158])), (q17, .inl (c17, 8, .inl (fun _ => 0))), (q25, .inl (c25, 8, .inl (fun _ => 0))), (q33, .inl (c33, 8, .inl (fun _ => 0))), (q41, .inl (c41, 8, .inl (fun _ => 0))), (q49, .inl (c49, 8, .inl (fun _ => 0))), (q57, .inl (c57, 8, .inl (fun _ => 0))), (q65, .inl (c65, 8, .inl (fun _ => 0))), (q73, .inl (c73, 8, .inl (fun _ => 0))), (q81, .inl (c81, 8, .inl (fun _ => 0))), (q89, .inl (c89, 8, .inl (fun _ => 0))), (q97, .inl (c97, 8, .inl (fun _ => 0))), (q105, .inl (c105, 8, .inl (fun _ => 0))), (q113, .inl (c113, 8, .inl (fun _ => 0))), (q120, .inl (c120, 4, .inl (upd (fun _ => 0) 0 (-1)))), (q127, .inl (c127, 2, .inl (fun _ => 0))), (q134, .inl (c134, 2, .inl (fun _ => 0))), (q142, .inl (c142, 8, .inl (fun _ => 0))), (q150, .inl (c150, 8, .inl (fun _ => 0))), (q158, .inl (c158, 8, .inl (fun _ => 0)))] H := hP
        have hD : va_D A [(h0, .inr (3, [.int slice, .int 1, .int 0, .int 0, .ref q17, .ref q25, .ref q33, .ref q41, .ref q49, .ref q57, .ref q65, .ref q73, .ref q81, .ref q89, .ref q97, .ref q105, .ref q113, .ref q120, .ref q127, .ref q134, .ref q142, .ref q150, .ref q158])), (q17, .inl (c17, 8, .inl (fun _ => 0))), (q25, .inl (c25, 8, .inl (fun _ => 0))), (q33, .inl (c33, 8, .inl (fun _ => 0))), (q41, .inl (c41, 8, .inl (fun _ => 0))), (q49, .inl (c49, 8, .inl (fun _ => 0))), (q57, .inl (c57, 8, .inl (fun _ => 0))), (q65, .inl (c65, 8, .inl (fun _ => 0))), (q73, .inl (c73, 8, .inl (fun _ => 0))), (q81, .inl (c81, 8, .inl (fun _ => 0))), (q89, .inl (c89, 8, .inl (fun _ => 0))), (q97, .inl (c97, 8, .inl (fun _ => 0))), (q105, .inl (c105, 8, .inl (fun _ => 0))), (q113, .inl (c113, 8, .inl (fun _ => 0))), (q120, .inl (c120, 4, .inl (upd (fun _ => 0) 0 (-1)))), (q127, .inl (c127, 2, .inl (fun _ => 0))), (q134, .inl (c134, 2, .inl (fun _ => 0))), (q142, .inl (c142, 8, .inl (fun _ => 0))), (q150, .inl (c150, 8, .inl (fun _ => 0))), (q158, .inl (c158, 8, .inl (fun _ => 0)))] := hD
        refine lv_iinc (v := 1) (lv' := [(3, .int 1), (0, .ref h0), (1, .int slice), (2, .int ceiling)]) hx hb dM_init_227 hl (k := 0) rfl (by decide) (by decide) rfl (fun ls hl => ?_)
        refine lv_goto (tgt := 215) hx hb dM_init_230 (by decide) ?_
        refine lv_iload_n hx hb dM_init_215 rfl (lv_at hl 0 rfl) ?_
        refine lv_iconst (v := 4) hx hb dM_init_216 (by decide) ?_
        refine lv_icmp_ge (tgt := 233) hx hb dM_init_217 (by decide) (fun c9 => absurd c9 (by decide)) (fun _ => ?_)
        refine lv_aload_n hx hb dM_init_220 rfl (lv_at hl 1 rfl) ?_
        refine va_get (D := (dC, dI)) (ci := 3) (v := .ref q120) (C := R_M) (T := T_M) (N := 23) hx hb hts uw_M hown hK hP 0 rfl rfl 17 (by decide) (hts _ (List.mem_cons_of_mem _ wd_348)) (fun _ h9 => h9) rfl dM_init_221 ?_
        refine lv_iload_n hx hb dM_init_224 rfl (lv_at hl 0 rfl) ?_
        refine lv_iconst (v := (-1)) hx hb dM_init_225 (by decide) ?_
        refine va_iast hx hb hK hP hD hS 14 13 rfl rfl (kk_inl (by decide)) dM_init_226 (fun H locs hP hD hS => ?_)
        rw [kk_c1] at hP hD
        have hP : va_P (dC, dI) vwCl [(h0, .inr (3, [.int slice, .int 1, .int 0, .int 0, .ref q17, .ref q25, .ref q33, .ref q41, .ref q49, .ref q57, .ref q65, .ref q73, .ref q81, .ref q89, .ref q97, .ref q105, .ref q113, .ref q120, .ref q127, .ref q134, .ref q142, .ref q150, .ref q158])), (q17, .inl (c17, 8, .inl (fun _ => 0))), (q25, .inl (c25, 8, .inl (fun _ => 0))), (q33, .inl (c33, 8, .inl (fun _ => 0))), (q41, .inl (c41, 8, .inl (fun _ => 0))), (q49, .inl (c49, 8, .inl (fun _ => 0))), (q57, .inl (c57, 8, .inl (fun _ => 0))), (q65, .inl (c65, 8, .inl (fun _ => 0))), (q73, .inl (c73, 8, .inl (fun _ => 0))), (q81, .inl (c81, 8, .inl (fun _ => 0))), (q89, .inl (c89, 8, .inl (fun _ => 0))), (q97, .inl (c97, 8, .inl (fun _ => 0))), (q105, .inl (c105, 8, .inl (fun _ => 0))), (q113, .inl (c113, 8, .inl (fun _ => 0))), (q120, .inl (c120, 4, .inl (upd (upd (fun _ => 0) 0 (-1)) 1 (-1)))), (q127, .inl (c127, 2, .inl (fun _ => 0))), (q134, .inl (c134, 2, .inl (fun _ => 0))), (q142, .inl (c142, 8, .inl (fun _ => 0))), (q150, .inl (c150, 8, .inl (fun _ => 0))), (q158, .inl (c158, 8, .inl (fun _ => 0)))] H := hP
        have hD : va_D A [(h0, .inr (3, [.int slice, .int 1, .int 0, .int 0, .ref q17, .ref q25, .ref q33, .ref q41, .ref q49, .ref q57, .ref q65, .ref q73, .ref q81, .ref q89, .ref q97, .ref q105, .ref q113, .ref q120, .ref q127, .ref q134, .ref q142, .ref q150, .ref q158])), (q17, .inl (c17, 8, .inl (fun _ => 0))), (q25, .inl (c25, 8, .inl (fun _ => 0))), (q33, .inl (c33, 8, .inl (fun _ => 0))), (q41, .inl (c41, 8, .inl (fun _ => 0))), (q49, .inl (c49, 8, .inl (fun _ => 0))), (q57, .inl (c57, 8, .inl (fun _ => 0))), (q65, .inl (c65, 8, .inl (fun _ => 0))), (q73, .inl (c73, 8, .inl (fun _ => 0))), (q81, .inl (c81, 8, .inl (fun _ => 0))), (q89, .inl (c89, 8, .inl (fun _ => 0))), (q97, .inl (c97, 8, .inl (fun _ => 0))), (q105, .inl (c105, 8, .inl (fun _ => 0))), (q113, .inl (c113, 8, .inl (fun _ => 0))), (q120, .inl (c120, 4, .inl (upd (upd (fun _ => 0) 0 (-1)) 1 (-1)))), (q127, .inl (c127, 2, .inl (fun _ => 0))), (q134, .inl (c134, 2, .inl (fun _ => 0))), (q142, .inl (c142, 8, .inl (fun _ => 0))), (q150, .inl (c150, 8, .inl (fun _ => 0))), (q158, .inl (c158, 8, .inl (fun _ => 0)))] := hD
        refine lv_iinc (v := 2) (lv' := [(3, .int 2), (0, .ref h0), (1, .int slice), (2, .int ceiling)]) hx hb dM_init_227 hl (k := 0) rfl (by decide) (by decide) rfl (fun ls hl => ?_)
        refine lv_goto (tgt := 215) hx hb dM_init_230 (by decide) ?_
        refine lv_iload_n hx hb dM_init_215 rfl (lv_at hl 0 rfl) ?_
        refine lv_iconst (v := 4) hx hb dM_init_216 (by decide) ?_
        refine lv_icmp_ge (tgt := 233) hx hb dM_init_217 (by decide) (fun c9 => absurd c9 (by decide)) (fun _ => ?_)
        refine lv_aload_n hx hb dM_init_220 rfl (lv_at hl 1 rfl) ?_
        refine va_get (D := (dC, dI)) (ci := 3) (v := .ref q120) (C := R_M) (T := T_M) (N := 23) hx hb hts uw_M hown hK hP 0 rfl rfl 17 (by decide) (hts _ (List.mem_cons_of_mem _ wd_348)) (fun _ h9 => h9) rfl dM_init_221 ?_
        refine lv_iload_n hx hb dM_init_224 rfl (lv_at hl 0 rfl) ?_
        refine lv_iconst (v := (-1)) hx hb dM_init_225 (by decide) ?_
        refine va_iast hx hb hK hP hD hS 14 13 rfl rfl (kk_inl (by decide)) dM_init_226 (fun H locs hP hD hS => ?_)
        rw [kk_c2] at hP hD
        have hP : va_P (dC, dI) vwCl [(h0, .inr (3, [.int slice, .int 1, .int 0, .int 0, .ref q17, .ref q25, .ref q33, .ref q41, .ref q49, .ref q57, .ref q65, .ref q73, .ref q81, .ref q89, .ref q97, .ref q105, .ref q113, .ref q120, .ref q127, .ref q134, .ref q142, .ref q150, .ref q158])), (q17, .inl (c17, 8, .inl (fun _ => 0))), (q25, .inl (c25, 8, .inl (fun _ => 0))), (q33, .inl (c33, 8, .inl (fun _ => 0))), (q41, .inl (c41, 8, .inl (fun _ => 0))), (q49, .inl (c49, 8, .inl (fun _ => 0))), (q57, .inl (c57, 8, .inl (fun _ => 0))), (q65, .inl (c65, 8, .inl (fun _ => 0))), (q73, .inl (c73, 8, .inl (fun _ => 0))), (q81, .inl (c81, 8, .inl (fun _ => 0))), (q89, .inl (c89, 8, .inl (fun _ => 0))), (q97, .inl (c97, 8, .inl (fun _ => 0))), (q105, .inl (c105, 8, .inl (fun _ => 0))), (q113, .inl (c113, 8, .inl (fun _ => 0))), (q120, .inl (c120, 4, .inl (upd (upd (upd (fun _ => 0) 0 (-1)) 1 (-1)) 2 (-1)))), (q127, .inl (c127, 2, .inl (fun _ => 0))), (q134, .inl (c134, 2, .inl (fun _ => 0))), (q142, .inl (c142, 8, .inl (fun _ => 0))), (q150, .inl (c150, 8, .inl (fun _ => 0))), (q158, .inl (c158, 8, .inl (fun _ => 0)))] H := hP
        have hD : va_D A [(h0, .inr (3, [.int slice, .int 1, .int 0, .int 0, .ref q17, .ref q25, .ref q33, .ref q41, .ref q49, .ref q57, .ref q65, .ref q73, .ref q81, .ref q89, .ref q97, .ref q105, .ref q113, .ref q120, .ref q127, .ref q134, .ref q142, .ref q150, .ref q158])), (q17, .inl (c17, 8, .inl (fun _ => 0))), (q25, .inl (c25, 8, .inl (fun _ => 0))), (q33, .inl (c33, 8, .inl (fun _ => 0))), (q41, .inl (c41, 8, .inl (fun _ => 0))), (q49, .inl (c49, 8, .inl (fun _ => 0))), (q57, .inl (c57, 8, .inl (fun _ => 0))), (q65, .inl (c65, 8, .inl (fun _ => 0))), (q73, .inl (c73, 8, .inl (fun _ => 0))), (q81, .inl (c81, 8, .inl (fun _ => 0))), (q89, .inl (c89, 8, .inl (fun _ => 0))), (q97, .inl (c97, 8, .inl (fun _ => 0))), (q105, .inl (c105, 8, .inl (fun _ => 0))), (q113, .inl (c113, 8, .inl (fun _ => 0))), (q120, .inl (c120, 4, .inl (upd (upd (upd (fun _ => 0) 0 (-1)) 1 (-1)) 2 (-1)))), (q127, .inl (c127, 2, .inl (fun _ => 0))), (q134, .inl (c134, 2, .inl (fun _ => 0))), (q142, .inl (c142, 8, .inl (fun _ => 0))), (q150, .inl (c150, 8, .inl (fun _ => 0))), (q158, .inl (c158, 8, .inl (fun _ => 0)))] := hD
        refine lv_iinc (v := 3) (lv' := [(3, .int 3), (0, .ref h0), (1, .int slice), (2, .int ceiling)]) hx hb dM_init_227 hl (k := 0) rfl (by decide) (by decide) rfl (fun ls hl => ?_)
        refine lv_goto (tgt := 215) hx hb dM_init_230 (by decide) ?_
        refine lv_iload_n hx hb dM_init_215 rfl (lv_at hl 0 rfl) ?_
        refine lv_iconst (v := 4) hx hb dM_init_216 (by decide) ?_
        refine lv_icmp_ge (tgt := 233) hx hb dM_init_217 (by decide) (fun c9 => absurd c9 (by decide)) (fun _ => ?_)
        refine lv_aload_n hx hb dM_init_220 rfl (lv_at hl 1 rfl) ?_
        refine va_get (D := (dC, dI)) (ci := 3) (v := .ref q120) (C := R_M) (T := T_M) (N := 23) hx hb hts uw_M hown hK hP 0 rfl rfl 17 (by decide) (hts _ (List.mem_cons_of_mem _ wd_348)) (fun _ h9 => h9) rfl dM_init_221 ?_
        refine lv_iload_n hx hb dM_init_224 rfl (lv_at hl 0 rfl) ?_
        refine lv_iconst (v := (-1)) hx hb dM_init_225 (by decide) ?_
        refine va_iast hx hb hK hP hD hS 14 13 rfl rfl (kk_inl (by decide)) dM_init_226 (fun H locs hP hD hS => ?_)
        rw [kk_c3] at hP hD
        have hP : va_P (dC, dI) vwCl [(h0, .inr (3, [.int slice, .int 1, .int 0, .int 0, .ref q17, .ref q25, .ref q33, .ref q41, .ref q49, .ref q57, .ref q65, .ref q73, .ref q81, .ref q89, .ref q97, .ref q105, .ref q113, .ref q120, .ref q127, .ref q134, .ref q142, .ref q150, .ref q158])), (q17, .inl (c17, 8, .inl (fun _ => 0))), (q25, .inl (c25, 8, .inl (fun _ => 0))), (q33, .inl (c33, 8, .inl (fun _ => 0))), (q41, .inl (c41, 8, .inl (fun _ => 0))), (q49, .inl (c49, 8, .inl (fun _ => 0))), (q57, .inl (c57, 8, .inl (fun _ => 0))), (q65, .inl (c65, 8, .inl (fun _ => 0))), (q73, .inl (c73, 8, .inl (fun _ => 0))), (q81, .inl (c81, 8, .inl (fun _ => 0))), (q89, .inl (c89, 8, .inl (fun _ => 0))), (q97, .inl (c97, 8, .inl (fun _ => 0))), (q105, .inl (c105, 8, .inl (fun _ => 0))), (q113, .inl (c113, 8, .inl (fun _ => 0))), (q120, .inl (c120, 4, .inl (upd (upd (upd (upd (fun _ => 0) 0 (-1)) 1 (-1)) 2 (-1)) 3 (-1)))), (q127, .inl (c127, 2, .inl (fun _ => 0))), (q134, .inl (c134, 2, .inl (fun _ => 0))), (q142, .inl (c142, 8, .inl (fun _ => 0))), (q150, .inl (c150, 8, .inl (fun _ => 0))), (q158, .inl (c158, 8, .inl (fun _ => 0)))] H := hP
        have hD : va_D A [(h0, .inr (3, [.int slice, .int 1, .int 0, .int 0, .ref q17, .ref q25, .ref q33, .ref q41, .ref q49, .ref q57, .ref q65, .ref q73, .ref q81, .ref q89, .ref q97, .ref q105, .ref q113, .ref q120, .ref q127, .ref q134, .ref q142, .ref q150, .ref q158])), (q17, .inl (c17, 8, .inl (fun _ => 0))), (q25, .inl (c25, 8, .inl (fun _ => 0))), (q33, .inl (c33, 8, .inl (fun _ => 0))), (q41, .inl (c41, 8, .inl (fun _ => 0))), (q49, .inl (c49, 8, .inl (fun _ => 0))), (q57, .inl (c57, 8, .inl (fun _ => 0))), (q65, .inl (c65, 8, .inl (fun _ => 0))), (q73, .inl (c73, 8, .inl (fun _ => 0))), (q81, .inl (c81, 8, .inl (fun _ => 0))), (q89, .inl (c89, 8, .inl (fun _ => 0))), (q97, .inl (c97, 8, .inl (fun _ => 0))), (q105, .inl (c105, 8, .inl (fun _ => 0))), (q113, .inl (c113, 8, .inl (fun _ => 0))), (q120, .inl (c120, 4, .inl (upd (upd (upd (upd (fun _ => 0) 0 (-1)) 1 (-1)) 2 (-1)) 3 (-1)))), (q127, .inl (c127, 2, .inl (fun _ => 0))), (q134, .inl (c134, 2, .inl (fun _ => 0))), (q142, .inl (c142, 8, .inl (fun _ => 0))), (q150, .inl (c150, 8, .inl (fun _ => 0))), (q158, .inl (c158, 8, .inl (fun _ => 0)))] := hD
        refine lv_iinc (v := 4) (lv' := [(3, .int 4), (0, .ref h0), (1, .int slice), (2, .int ceiling)]) hx hb dM_init_227 hl (k := 0) rfl (by decide) (by decide) rfl (fun ls hl => ?_)
        refine lv_goto (tgt := 215) hx hb dM_init_230 (by decide) ?_
        refine lv_iload_n hx hb dM_init_215 rfl (lv_at hl 0 rfl) ?_
        refine lv_iconst (v := 4) hx hb dM_init_216 (by decide) ?_
        refine lv_icmp_ge (tgt := 233) hx hb dM_init_217 (by decide) (fun _ => ?_) (fun c9 => absurd (by decide) c9)
        subst hf
        have hP9 := hP.sub (ws' := km_w (fun k => match k with | 0 => h0 | 1 => q17 | 2 => q25 | 3 => q33 | 4 => q41 | 5 => q49 | 6 => q57 | 7 => q65 | 8 => q73 | 9 => q81 | 10 => q89 | 11 => q97 | 12 => q105 | 13 => q113 | 14 => q120 | 15 => q127 | 16 => q134 | 17 => q142 | 18 => q150 | _ => q158) (fun k => match k with | 1 => c17 | 2 => c25 | 3 => c33 | 4 => c41 | 5 => c49 | 6 => c57 | 7 => c65 | 8 => c73 | 9 => c81 | 10 => c89 | 11 => c97 | 12 => c105 | 13 => c113 | 14 => c120 | 15 => c127 | 16 => c134 | 17 => c142 | 18 => c150 | _ => c158) (km_0 slice 1)) [0, 1, 2, 3, 4, 5, 6, 7, 8, 9, 10, 11, 12, 13, 14, 15, 16, 17, 18, 19] rfl
        have hD9 := hD.sub (ws' := km_w (fun k => match k with | 0 => h0 | 1 => q17 | 2 => q25 | 3 => q33 | 4 => q41 | 5 => q49 | 6 => q57 | 7 => q65 | 8 => q73 | 9 => q81 | 10 => q89 | 11 => q97 | 12 => q105 | 13 => q113 | 14 => q120 | 15 => q127 | 16 => q134 | 17 => q142 | 18 => q150 | _ => q158) (fun k => match k with | 1 => c17 | 2 => c25 | 3 => c33 | 4 => c41 | 5 => c49 | 6 => c57 | 7 => c65 | 8 => c73 | 9 => c81 | 10 => c89 | 11 => c97 | 12 => c105 | 13 => c113 | 14 => c120 | 15 => c127 | 16 => c134 | 17 => c142 | 18 => c150 | _ => c158) (km_0 slice 1)) [0, 1, 2, 3, 4, 5, 6, 7, 8, 9, 10, 11, 12, 13, 14, 15, 16, 17, 18, 19] (by decide) rfl
        have hK9 := hK.sub (tys' := km_t (fun k => match k with | 1 => c17 | 2 => c25 | 3 => c33 | 4 => c41 | 5 => c49 | 6 => c57 | 7 => c65 | 8 => c73 | 9 => c81 | 10 => c89 | 11 => c97 | 12 => c105 | 13 => c113 | 14 => c120 | 15 => c127 | 16 => c134 | 17 => c142 | 18 => c150 | _ => c158)) [0, 1, 2, 3, 4, 5, 6, 7, 8, 9, 10, 11, 12, 13, 14, 15, 16, 17, 18] rfl
        exact W.vret hx hb hr (fun t ht hW => ⟨⟨(fun k => match k with | 0 => h0 | 1 => q17 | 2 => q25 | 3 => q33 | 4 => q41 | 5 => q49 | 6 => q57 | 7 => q65 | 8 => q73 | 9 => q81 | 10 => q89 | 11 => q97 | 12 => q105 | 13 => q113 | 14 => q120 | 15 => q127 | 16 => q134 | 17 => q142 | 18 => q150 | _ => q158, fun k => match k with | 1 => c17 | 2 => c25 | 3 => c33 | 4 => c41 | 5 => c49 | 6 => c57 | 7 => c65 | 8 => c73 | 9 => c81 | 10 => c89 | 11 => c97 | 12 => c105 | 13 => c113 | 14 => c120 | 15 => c127 | 16 => c134 | 17 => c142 | 18 => c150 | _ => c158), rfl, rfl, by rw [ht]; exact hP9, va_K.moved hW.alike hK9, hD9⟩, hS.F ht⟩) hS.2.2 dM_init_233 hlocks
    · rw [if_neg c_176] at hf
      refine lv_bipush (v := 20) hx hb dM_init_179 (by decide) ?_
      refine lv_goto (tgt := 185) hx hb dM_init_181 (by decide) ?_
      refine va_putF (D := (dC, dI)) (ci := 3) (v := .int 20) (ty := .int) (C := R_M) (T := T_M) (N := 23) hx hb hts uw_M ty_M ty_M_ok nm_M hown hK hP hD hS 0 rfl rfl 0 (by decide) (hts _ (List.mem_cons_of_mem _ wd_331)) (fun _ h9 => h9) rfl hin rfl (by decide +kernel) rfl rfl (Nat.le_of_ble_eq_true rfl) dM_init_185 (fun H locs hP hD hS => ?_)
      have hP : va_P (dC, dI) vwCl [(h0, .inr (3, [.int 20, .int 0, .int 0, .int 0, .ref q17, .ref q25, .ref q33, .ref q41, .ref q49, .ref q57, .ref q65, .ref q73, .ref q81, .ref q89, .ref q97, .ref q105, .ref q113, .ref q120, .ref q127, .ref q134, .ref q142, .ref q150, .ref q158])), (q17, .inl (c17, 8, .inl (fun _ => 0))), (q25, .inl (c25, 8, .inl (fun _ => 0))), (q33, .inl (c33, 8, .inl (fun _ => 0))), (q41, .inl (c41, 8, .inl (fun _ => 0))), (q49, .inl (c49, 8, .inl (fun _ => 0))), (q57, .inl (c57, 8, .inl (fun _ => 0))), (q65, .inl (c65, 8, .inl (fun _ => 0))), (q73, .inl (c73, 8, .inl (fun _ => 0))), (q81, .inl (c81, 8, .inl (fun _ => 0))), (q89, .inl (c89, 8, .inl (fun _ => 0))), (q97, .inl (c97, 8, .inl (fun _ => 0))), (q105, .inl (c105, 8, .inl (fun _ => 0))), (q113, .inl (c113, 8, .inl (fun _ => 0))), (q120, .inl (c120, 4, .inl (fun _ => 0))), (q127, .inl (c127, 2, .inl (fun _ => 0))), (q134, .inl (c134, 2, .inl (fun _ => 0))), (q142, .inl (c142, 8, .inl (fun _ => 0))), (q150, .inl (c150, 8, .inl (fun _ => 0))), (q158, .inl (c158, 8, .inl (fun _ => 0)))] H := hP
      have hD : va_D A [(h0, .inr (3, [.int 20, .int 0, .int 0, .int 0, .ref q17, .ref q25, .ref q33, .ref q41, .ref q49, .ref q57, .ref q65, .ref q73, .ref q81, .ref q89, .ref q97, .ref q105, .ref q113, .ref q120, .ref q127, .ref q134, .ref q142, .ref q150, .ref q158])), (q17, .inl (c17, 8, .inl (fun _ => 0))), (q25, .inl (c25, 8, .inl (fun _ => 0))), (q33, .inl (c33, 8, .inl (fun _ => 0))), (q41, .inl (c41, 8, .inl (fun _ => 0))), (q49, .inl (c49, 8, .inl (fun _ => 0))), (q57, .inl (c57, 8, .inl (fun _ => 0))), (q65, .inl (c65, 8, .inl (fun _ => 0))), (q73, .inl (c73, 8, .inl (fun _ => 0))), (q81, .inl (c81, 8, .inl (fun _ => 0))), (q89, .inl (c89, 8, .inl (fun _ => 0))), (q97, .inl (c97, 8, .inl (fun _ => 0))), (q105, .inl (c105, 8, .inl (fun _ => 0))), (q113, .inl (c113, 8, .inl (fun _ => 0))), (q120, .inl (c120, 4, .inl (fun _ => 0))), (q127, .inl (c127, 2, .inl (fun _ => 0))), (q134, .inl (c134, 2, .inl (fun _ => 0))), (q142, .inl (c142, 8, .inl (fun _ => 0))), (q150, .inl (c150, 8, .inl (fun _ => 0))), (q158, .inl (c158, 8, .inl (fun _ => 0)))] := hD
      refine lv_aload_n hx hb dM_init_188 rfl (lv_at hl 0 rfl) ?_
      refine lv_iload_n hx hb dM_init_189 rfl (lv_at hl 2 rfl) ?_
      refine lv_iconst (v := 1) hx hb dM_init_190 (by decide) ?_
      refine lv_icmp_ge (tgt := 198) hx hb dM_init_191 (by decide) (fun c_191 => ?_) (fun c_191 => ?_)
      · rw [if_pos c_191] at hf
        refine lv_iload_n hx hb dM_init_198 rfl (lv_at hl 2 rfl) ?_
        refine lv_bipush (v := 31) hx hb dM_init_199 (by decide) ?_
        refine lv_icmp_le (tgt := 209) hx hb dM_init_201 (by decide) (fun c_201 => ?_) (fun c_201 => ?_)
        · rw [if_pos c_201] at hf
          refine lv_iload_n hx hb dM_init_209 rfl (lv_at hl 2 rfl) ?_
          refine va_putF (D := (dC, dI)) (ci := 3) (v := .int ceiling) (ty := .int) (C := R_M) (T := T_M) (N := 23) hx hb hts uw_M ty_M ty_M_ok nm_M hown hK hP hD hS 0 rfl rfl 1 (by decide) (hts _ (List.mem_cons_of_mem _ wd_332)) (fun _ h9 => h9) rfl hin rfl (by decide +kernel) rfl rfl (Nat.le_of_ble_eq_true rfl) dM_init_210 (fun H locs hP hD hS => ?_)
          have hP : va_P (dC, dI) vwCl [(h0, .inr (3, [.int 20, .int ceiling, .int 0, .int 0, .ref q17, .ref q25, .ref q33, .ref q41, .ref q49, .ref q57, .ref q65, .ref q73, .ref q81, .ref q89, .ref q97, .ref q105, .ref q113, .ref q120, .ref q127, .ref q134, .ref q142, .ref q150, .ref q158])), (q17, .inl (c17, 8, .inl (fun _ => 0))), (q25, .inl (c25, 8, .inl (fun _ => 0))), (q33, .inl (c33, 8, .inl (fun _ => 0))), (q41, .inl (c41, 8, .inl (fun _ => 0))), (q49, .inl (c49, 8, .inl (fun _ => 0))), (q57, .inl (c57, 8, .inl (fun _ => 0))), (q65, .inl (c65, 8, .inl (fun _ => 0))), (q73, .inl (c73, 8, .inl (fun _ => 0))), (q81, .inl (c81, 8, .inl (fun _ => 0))), (q89, .inl (c89, 8, .inl (fun _ => 0))), (q97, .inl (c97, 8, .inl (fun _ => 0))), (q105, .inl (c105, 8, .inl (fun _ => 0))), (q113, .inl (c113, 8, .inl (fun _ => 0))), (q120, .inl (c120, 4, .inl (fun _ => 0))), (q127, .inl (c127, 2, .inl (fun _ => 0))), (q134, .inl (c134, 2, .inl (fun _ => 0))), (q142, .inl (c142, 8, .inl (fun _ => 0))), (q150, .inl (c150, 8, .inl (fun _ => 0))), (q158, .inl (c158, 8, .inl (fun _ => 0)))] H := hP
          have hD : va_D A [(h0, .inr (3, [.int 20, .int ceiling, .int 0, .int 0, .ref q17, .ref q25, .ref q33, .ref q41, .ref q49, .ref q57, .ref q65, .ref q73, .ref q81, .ref q89, .ref q97, .ref q105, .ref q113, .ref q120, .ref q127, .ref q134, .ref q142, .ref q150, .ref q158])), (q17, .inl (c17, 8, .inl (fun _ => 0))), (q25, .inl (c25, 8, .inl (fun _ => 0))), (q33, .inl (c33, 8, .inl (fun _ => 0))), (q41, .inl (c41, 8, .inl (fun _ => 0))), (q49, .inl (c49, 8, .inl (fun _ => 0))), (q57, .inl (c57, 8, .inl (fun _ => 0))), (q65, .inl (c65, 8, .inl (fun _ => 0))), (q73, .inl (c73, 8, .inl (fun _ => 0))), (q81, .inl (c81, 8, .inl (fun _ => 0))), (q89, .inl (c89, 8, .inl (fun _ => 0))), (q97, .inl (c97, 8, .inl (fun _ => 0))), (q105, .inl (c105, 8, .inl (fun _ => 0))), (q113, .inl (c113, 8, .inl (fun _ => 0))), (q120, .inl (c120, 4, .inl (fun _ => 0))), (q127, .inl (c127, 2, .inl (fun _ => 0))), (q134, .inl (c134, 2, .inl (fun _ => 0))), (q142, .inl (c142, 8, .inl (fun _ => 0))), (q150, .inl (c150, 8, .inl (fun _ => 0))), (q158, .inl (c158, 8, .inl (fun _ => 0)))] := hD
          refine lv_iconst (v := 0) hx hb dM_init_213 (by decide) ?_
          refine lv_istore_n (lv' := [(3, .int 0), (0, .ref h0), (1, .int slice), (2, .int ceiling)]) hx hb dM_init_214 rfl hl (by decide) rfl (fun ls hl => ?_)
          refine lv_iload_n hx hb dM_init_215 rfl (lv_at hl 0 rfl) ?_
          refine lv_iconst (v := 4) hx hb dM_init_216 (by decide) ?_
          refine lv_icmp_ge (tgt := 233) hx hb dM_init_217 (by decide) (fun c9 => absurd c9 (by decide)) (fun _ => ?_)
          refine lv_aload_n hx hb dM_init_220 rfl (lv_at hl 1 rfl) ?_
          refine va_get (D := (dC, dI)) (ci := 3) (v := .ref q120) (C := R_M) (T := T_M) (N := 23) hx hb hts uw_M hown hK hP 0 rfl rfl 17 (by decide) (hts _ (List.mem_cons_of_mem _ wd_348)) (fun _ h9 => h9) rfl dM_init_221 ?_
          refine lv_iload_n hx hb dM_init_224 rfl (lv_at hl 0 rfl) ?_
          refine lv_iconst (v := (-1)) hx hb dM_init_225 (by decide) ?_
          refine va_iast hx hb hK hP hD hS 14 13 rfl rfl (kk_inl (by decide)) dM_init_226 (fun H locs hP hD hS => ?_)
          rw [kk_c0] at hP hD
          have hP : va_P (dC, dI) vwCl [(h0, .inr (3, [.int 20, .int ceiling, .int 0, .int 0, .ref q17, .ref q25, .ref q33, .ref q41, .ref q49, .ref q57, .ref q65, .ref q73, .ref q81, .ref q89, .ref q97, .ref q105, .ref q113, .ref q120, .ref q127, .ref q134, .ref q142, .ref q150, .ref q158])), (q17, .inl (c17, 8, .inl (fun _ => 0))), (q25, .inl (c25, 8, .inl (fun _ => 0))), (q33, .inl (c33, 8, .inl (fun _ => 0))), (q41, .inl (c41, 8, .inl (fun _ => 0))), (q49, .inl (c49, 8, .inl (fun _ => 0))), (q57, .inl (c57, 8, .inl (fun _ => 0))), (q65, .inl (c65, 8, .inl (fun _ => 0))), (q73, .inl (c73, 8, .inl (fun _ => 0))), (q81, .inl (c81, 8, .inl (fun _ => 0))), (q89, .inl (c89, 8, .inl (fun _ => 0))), (q97, .inl (c97, 8, .inl (fun _ => 0))), (q105, .inl (c105, 8, .inl (fun _ => 0))), (q113, .inl (c113, 8, .inl (fun _ => 0))), (q120, .inl (c120, 4, .inl (upd (fun _ => 0) 0 (-1)))), (q127, .inl (c127, 2, .inl (fun _ => 0))), (q134, .inl (c134, 2, .inl (fun _ => 0))), (q142, .inl (c142, 8, .inl (fun _ => 0))), (q150, .inl (c150, 8, .inl (fun _ => 0))), (q158, .inl (c158, 8, .inl (fun _ => 0)))] H := hP
          have hD : va_D A [(h0, .inr (3, [.int 20, .int ceiling, .int 0, .int 0, .ref q17, .ref q25, .ref q33, .ref q41, .ref q49, .ref q57, .ref q65, .ref q73, .ref q81, .ref q89, .ref q97, .ref q105, .ref q113, .ref q120, .ref q127, .ref q134, .ref q142, .ref q150, .ref q158])), (q17, .inl (c17, 8, .inl (fun _ => 0))), (q25, .inl (c25, 8, .inl (fun _ => 0))), (q33, .inl (c33, 8, .inl (fun _ => 0))), (q41, .inl (c41, 8, .inl (fun _ => 0))), (q49, .inl (c49, 8, .inl (fun _ => 0))), (q57, .inl (c57, 8, .inl (fun _ => 0))), (q65, .inl (c65, 8, .inl (fun _ => 0))), (q73, .inl (c73, 8, .inl (fun _ => 0))), (q81, .inl (c81, 8, .inl (fun _ => 0))), (q89, .inl (c89, 8, .inl (fun _ => 0))), (q97, .inl (c97, 8, .inl (fun _ => 0))), (q105, .inl (c105, 8, .inl (fun _ => 0))), (q113, .inl (c113, 8, .inl (fun _ => 0))), (q120, .inl (c120, 4, .inl (upd (fun _ => 0) 0 (-1)))), (q127, .inl (c127, 2, .inl (fun _ => 0))), (q134, .inl (c134, 2, .inl (fun _ => 0))), (q142, .inl (c142, 8, .inl (fun _ => 0))), (q150, .inl (c150, 8, .inl (fun _ => 0))), (q158, .inl (c158, 8, .inl (fun _ => 0)))] := hD
          refine lv_iinc (v := 1) (lv' := [(3, .int 1), (0, .ref h0), (1, .int slice), (2, .int ceiling)]) hx hb dM_init_227 hl (k := 0) rfl (by decide) (by decide) rfl (fun ls hl => ?_)
          refine lv_goto (tgt := 215) hx hb dM_init_230 (by decide) ?_
          refine lv_iload_n hx hb dM_init_215 rfl (lv_at hl 0 rfl) ?_
          refine lv_iconst (v := 4) hx hb dM_init_216 (by decide) ?_
          refine lv_icmp_ge (tgt := 233) hx hb dM_init_217 (by decide) (fun c9 => absurd c9 (by decide)) (fun _ => ?_)
          refine lv_aload_n hx hb dM_init_220 rfl (lv_at hl 1 rfl) ?_
          refine va_get (D := (dC, dI)) (ci := 3) (v := .ref q120) (C := R_M) (T := T_M) (N := 23) hx hb hts uw_M hown hK hP 0 rfl rfl 17 (by decide) (hts _ (List.mem_cons_of_mem _ wd_348)) (fun _ h9 => h9) rfl dM_init_221 ?_
          refine lv_iload_n hx hb dM_init_224 rfl (lv_at hl 0 rfl) ?_
          refine lv_iconst (v := (-1)) hx hb dM_init_225 (by decide) ?_
          refine va_iast hx hb hK hP hD hS 14 13 rfl rfl (kk_inl (by decide)) dM_init_226 (fun H locs hP hD hS => ?_)
          rw [kk_c1] at hP hD
          have hP : va_P (dC, dI) vwCl [(h0, .inr (3, [.int 20, .int ceiling, .int 0, .int 0, .ref q17, .ref q25, .ref q33, .ref q41, .ref q49, .ref q57, .ref q65, .ref q73, .ref q81, .ref q89, .ref q97, .ref q105, .ref q113, .ref q120, .ref q127, .ref q134, .ref q142, .ref q150, .ref q158])), (q17, .inl (c17, 8, .inl (fun _ => 0))), (q25, .inl (c25, 8, .inl (fun _ => 0))), (q33, .inl (c33, 8, .inl (fun _ => 0))), (q41, .inl (c41, 8, .inl (fun _ => 0))), (q49, .inl (c49, 8, .inl (fun _ => 0))), (q57, .inl (c57, 8, .inl (fun _ => 0))), (q65, .inl (c65, 8, .inl (fun _ => 0))), (q73, .inl (c73, 8, .inl (fun _ => 0))), (q81, .inl (c81, 8, .inl (fun _ => 0))), (q89, .inl (c89, 8, .inl (fun _ => 0))), (q97, .inl (c97, 8, .inl (fun _ => 0))), (q105, .inl (c105, 8, .inl (fun _ => 0))), (q113, .inl (c113, 8, .inl (fun _ => 0))), (q120, .inl (c120, 4, .inl (upd (upd (fun _ => 0) 0 (-1)) 1 (-1)))), (q127, .inl (c127, 2, .inl (fun _ => 0))), (q134, .inl (c134, 2, .inl (fun _ => 0))), (q142, .inl (c142, 8, .inl (fun _ => 0))), (q150, .inl (c150, 8, .inl (fun _ => 0))), (q158, .inl (c158, 8, .inl (fun _ => 0)))] H := hP
          have hD : va_D A [(h0, .inr (3, [.int 20, .int ceiling, .int 0, .int 0, .ref q17, .ref q25, .ref q33, .ref q41, .ref q49, .ref q57, .ref q65, .ref q73, .ref q81, .ref q89, .ref q97, .ref q105, .ref q113, .ref q120, .ref q127, .ref q134, .ref q142, .ref q150, .ref q158])), (q17, .inl (c17, 8, .inl (fun _ => 0))), (q25, .inl (c25, 8, .inl (fun _ => 0))), (q33, .inl (c33, 8, .inl (fun _ => 0))), (q41, .inl (c41, 8, .inl (fun _ => 0))), (q49, .inl (c49, 8, .inl (fun _ => 0))), (q57, .inl (c57, 8, .inl (fun _ => 0))), (q65, .inl (c65, 8, .inl (fun _ => 0))), (q73, .inl (c73, 8, .inl (fun _ => 0))), (q81, .inl (c81, 8, .inl (fun _ => 0))), (q89, .inl (c89, 8, .inl (fun _ => 0))), (q97, .inl (c97, 8, .inl (fun _ => 0))), (q105, .inl (c105, 8, .inl (fun _ => 0))), (q113, .inl (c113, 8, .inl (fun _ => 0))), (q120, .inl (c120, 4, .inl (upd (upd (fun _ => 0) 0 (-1)) 1 (-1)))), (q127, .inl (c127, 2, .inl (fun _ => 0))), (q134, .inl (c134, 2, .inl (fun _ => 0))), (q142, .inl (c142, 8, .inl (fun _ => 0))), (q150, .inl (c150, 8, .inl (fun _ => 0))), (q158, .inl (c158, 8, .inl (fun _ => 0)))] := hD
          refine lv_iinc (v := 2) (lv' := [(3, .int 2), (0, .ref h0), (1, .int slice), (2, .int ceiling)]) hx hb dM_init_227 hl (k := 0) rfl (by decide) (by decide) rfl (fun ls hl => ?_)
          refine lv_goto (tgt := 215) hx hb dM_init_230 (by decide) ?_
          refine lv_iload_n hx hb dM_init_215 rfl (lv_at hl 0 rfl) ?_
          refine lv_iconst (v := 4) hx hb dM_init_216 (by decide) ?_
          refine lv_icmp_ge (tgt := 233) hx hb dM_init_217 (by decide) (fun c9 => absurd c9 (by decide)) (fun _ => ?_)
          refine lv_aload_n hx hb dM_init_220 rfl (lv_at hl 1 rfl) ?_
          refine va_get (D := (dC, dI)) (ci := 3) (v := .ref q120) (C := R_M) (T := T_M) (N := 23) hx hb hts uw_M hown hK hP 0 rfl rfl 17 (by decide) (hts _ (List.mem_cons_of_mem _ wd_348)) (fun _ h9 => h9) rfl dM_init_221 ?_
          refine lv_iload_n hx hb dM_init_224 rfl (lv_at hl 0 rfl) ?_
          refine lv_iconst (v := (-1)) hx hb dM_init_225 (by decide) ?_
          refine va_iast hx hb hK hP hD hS 14 13 rfl rfl (kk_inl (by decide)) dM_init_226 (fun H locs hP hD hS => ?_)
          rw [kk_c2] at hP hD
          have hP : va_P (dC, dI) vwCl [(h0, .inr (3, [.int 20, .int ceiling, .int 0, .int 0, .ref q17, .ref q25, .ref q33, .ref q41, .ref q49, .ref q57, .ref q65, .ref q73, .ref q81, .ref q89, .ref q97, .ref q105, .ref q113, .ref q120, .ref q127, .ref q134, .ref q142, .ref q150, .ref q158])), (q17, .inl (c17, 8, .inl (fun _ => 0))), (q25, .inl (c25, 8, .inl (fun _ => 0))), (q33, .inl (c33, 8, .inl (fun _ => 0))), (q41, .inl (c41, 8, .inl (fun _ => 0))), (q49, .inl (c49, 8, .inl (fun _ => 0))), (q57, .inl (c57, 8, .inl (fun _ => 0))), (q65, .inl (c65, 8, .inl (fun _ => 0))), (q73, .inl (c73, 8, .inl (fun _ => 0))), (q81, .inl (c81, 8, .inl (fun _ => 0))), (q89, .inl (c89, 8, .inl (fun _ => 0))), (q97, .inl (c97, 8, .inl (fun _ => 0))), (q105, .inl (c105, 8, .inl (fun _ => 0))), (q113, .inl (c113, 8, .inl (fun _ => 0))), (q120, .inl (c120, 4, .inl (upd (upd (upd (fun _ => 0) 0 (-1)) 1 (-1)) 2 (-1)))), (q127, .inl (c127, 2, .inl (fun _ => 0))), (q134, .inl (c134, 2, .inl (fun _ => 0))), (q142, .inl (c142, 8, .inl (fun _ => 0))), (q150, .inl (c150, 8, .inl (fun _ => 0))), (q158, .inl (c158, 8, .inl (fun _ => 0)))] H := hP
          have hD : va_D A [(h0, .inr (3, [.int 20, .int ceiling, .int 0, .int 0, .ref q17, .ref q25, .ref q33, .ref q41, .ref q49, .ref q57, .ref q65, .ref q73, .ref q81, .ref q89, .ref q97, .ref q105, .ref q113, .ref q120, .ref q127, .ref q134, .ref q142, .ref q150, .ref q158])), (q17, .inl (c17, 8, .inl (fun _ => 0))), (q25, .inl (c25, 8, .inl (fun _ => 0))), (q33, .inl (c33, 8, .inl (fun _ => 0))), (q41, .inl (c41, 8, .inl (fun _ => 0))), (q49, .inl (c49, 8, .inl (fun _ => 0))), (q57, .inl (c57, 8, .inl (fun _ => 0))), (q65, .inl (c65, 8, .inl (fun _ => 0))), (q73, .inl (c73, 8, .inl (fun _ => 0))), (q81, .inl (c81, 8, .inl (fun _ => 0))), (q89, .inl (c89, 8, .inl (fun _ => 0))), (q97, .inl (c97, 8, .inl (fun _ => 0))), (q105, .inl (c105, 8, .inl (fun _ => 0))), (q113, .inl (c113, 8, .inl (fun _ => 0))), (q120, .inl (c120, 4, .inl (upd (upd (upd (fun _ => 0) 0 (-1)) 1 (-1)) 2 (-1)))), (q127, .inl (c127, 2, .inl (fun _ => 0))), (q134, .inl (c134, 2, .inl (fun _ => 0))), (q142, .inl (c142, 8, .inl (fun _ => 0))), (q150, .inl (c150, 8, .inl (fun _ => 0))), (q158, .inl (c158, 8, .inl (fun _ => 0)))] := hD
          refine lv_iinc (v := 3) (lv' := [(3, .int 3), (0, .ref h0), (1, .int slice), (2, .int ceiling)]) hx hb dM_init_227 hl (k := 0) rfl (by decide) (by decide) rfl (fun ls hl => ?_)
          refine lv_goto (tgt := 215) hx hb dM_init_230 (by decide) ?_
          refine lv_iload_n hx hb dM_init_215 rfl (lv_at hl 0 rfl) ?_
          refine lv_iconst (v := 4) hx hb dM_init_216 (by decide) ?_
          refine lv_icmp_ge (tgt := 233) hx hb dM_init_217 (by decide) (fun c9 => absurd c9 (by decide)) (fun _ => ?_)
          refine lv_aload_n hx hb dM_init_220 rfl (lv_at hl 1 rfl) ?_
          refine va_get (D := (dC, dI)) (ci := 3) (v := .ref q120) (C := R_M) (T := T_M) (N := 23) hx hb hts uw_M hown hK hP 0 rfl rfl 17 (by decide) (hts _ (List.mem_cons_of_mem _ wd_348)) (fun _ h9 => h9) rfl dM_init_221 ?_
          refine lv_iload_n hx hb dM_init_224 rfl (lv_at hl 0 rfl) ?_
          refine lv_iconst (v := (-1)) hx hb dM_init_225 (by decide) ?_
          refine va_iast hx hb hK hP hD hS 14 13 rfl rfl (kk_inl (by decide)) dM_init_226 (fun H locs hP hD hS => ?_)
          rw [kk_c3] at hP hD
          have hP : va_P (dC, dI) vwCl [(h0, .inr (3, [.int 20, .int ceiling, .int 0, .int 0, .ref q17, .ref q25, .ref q33, .ref q41, .ref q49, .ref q57, .ref q65, .ref q73, .ref q81, .ref q89, .ref q97, .ref q105, .ref q113, .ref q120, .ref q127, .ref q134, .ref q142, .ref q150, .ref q158])), (q17, .inl (c17, 8, .inl (fun _ => 0))), (q25, .inl (c25, 8, .inl (fun _ => 0))), (q33, .inl (c33, 8, .inl (fun _ => 0))), (q41, .inl (c41, 8, .inl (fun _ => 0))), (q49, .inl (c49, 8, .inl (fun _ => 0))), (q57, .inl (c57, 8, .inl (fun _ => 0))), (q65, .inl (c65, 8, .inl (fun _ => 0))), (q73, .inl (c73, 8, .inl (fun _ => 0))), (q81, .inl (c81, 8, .inl (fun _ => 0))), (q89, .inl (c89, 8, .inl (fun _ => 0))), (q97, .inl (c97, 8, .inl (fun _ => 0))), (q105, .inl (c105, 8, .inl (fun _ => 0))), (q113, .inl (c113, 8, .inl (fun _ => 0))), (q120, .inl (c120, 4, .inl (upd (upd (upd (upd (fun _ => 0) 0 (-1)) 1 (-1)) 2 (-1)) 3 (-1)))), (q127, .inl (c127, 2, .inl (fun _ => 0))), (q134, .inl (c134, 2, .inl (fun _ => 0))), (q142, .inl (c142, 8, .inl (fun _ => 0))), (q150, .inl (c150, 8, .inl (fun _ => 0))), (q158, .inl (c158, 8, .inl (fun _ => 0)))] H := hP
          have hD : va_D A [(h0, .inr (3, [.int 20, .int ceiling, .int 0, .int 0, .ref q17, .ref q25, .ref q33, .ref q41, .ref q49, .ref q57, .ref q65, .ref q73, .ref q81, .ref q89, .ref q97, .ref q105, .ref q113, .ref q120, .ref q127, .ref q134, .ref q142, .ref q150, .ref q158])), (q17, .inl (c17, 8, .inl (fun _ => 0))), (q25, .inl (c25, 8, .inl (fun _ => 0))), (q33, .inl (c33, 8, .inl (fun _ => 0))), (q41, .inl (c41, 8, .inl (fun _ => 0))), (q49, .inl (c49, 8, .inl (fun _ => 0))), (q57, .inl (c57, 8, .inl (fun _ => 0))), (q65, .inl (c65, 8, .inl (fun _ => 0))), (q73, .inl (c73, 8, .inl (fun _ => 0))), (q81, .inl (c81, 8, .inl (fun _ => 0))), (q89, .inl (c89, 8, .inl (fun _ => 0))), (q97, .inl (c97, 8, .inl (fun _ => 0))), (q105, .inl (c105, 8, .inl (fun _ => 0))), (q113, .inl (c113, 8, .inl (fun _ => 0))), (q120, .inl (c120, 4, .inl (upd (upd (upd (upd (fun _ => 0) 0 (-1)) 1 (-1)) 2 (-1)) 3 (-1)))), (q127, .inl (c127, 2, .inl (fun _ => 0))), (q134, .inl (c134, 2, .inl (fun _ => 0))), (q142, .inl (c142, 8, .inl (fun _ => 0))), (q150, .inl (c150, 8, .inl (fun _ => 0))), (q158, .inl (c158, 8, .inl (fun _ => 0)))] := hD
          refine lv_iinc (v := 4) (lv' := [(3, .int 4), (0, .ref h0), (1, .int slice), (2, .int ceiling)]) hx hb dM_init_227 hl (k := 0) rfl (by decide) (by decide) rfl (fun ls hl => ?_)
          refine lv_goto (tgt := 215) hx hb dM_init_230 (by decide) ?_
          refine lv_iload_n hx hb dM_init_215 rfl (lv_at hl 0 rfl) ?_
          refine lv_iconst (v := 4) hx hb dM_init_216 (by decide) ?_
          refine lv_icmp_ge (tgt := 233) hx hb dM_init_217 (by decide) (fun _ => ?_) (fun c9 => absurd (by decide) c9)
          subst hf
          have hP9 := hP.sub (ws' := km_w (fun k => match k with | 0 => h0 | 1 => q17 | 2 => q25 | 3 => q33 | 4 => q41 | 5 => q49 | 6 => q57 | 7 => q65 | 8 => q73 | 9 => q81 | 10 => q89 | 11 => q97 | 12 => q105 | 13 => q113 | 14 => q120 | 15 => q127 | 16 => q134 | 17 => q142 | 18 => q150 | _ => q158) (fun k => match k with | 1 => c17 | 2 => c25 | 3 => c33 | 4 => c41 | 5 => c49 | 6 => c57 | 7 => c65 | 8 => c73 | 9 => c81 | 10 => c89 | 11 => c97 | 12 => c105 | 13 => c113 | 14 => c120 | 15 => c127 | 16 => c134 | 17 => c142 | 18 => c150 | _ => c158) (km_0 20 ceiling)) [0, 1, 2, 3, 4, 5, 6, 7, 8, 9, 10, 11, 12, 13, 14, 15, 16, 17, 18, 19] rfl
          have hD9 := hD.sub (ws' := km_w (fun k => match k with | 0 => h0 | 1 => q17 | 2 => q25 | 3 => q33 | 4 => q41 | 5 => q49 | 6 => q57 | 7 => q65 | 8 => q73 | 9 => q81 | 10 => q89 | 11 => q97 | 12 => q105 | 13 => q113 | 14 => q120 | 15 => q127 | 16 => q134 | 17 => q142 | 18 => q150 | _ => q158) (fun k => match k with | 1 => c17 | 2 => c25 | 3 => c33 | 4 => c41 | 5 => c49 | 6 => c57 | 7 => c65 | 8 => c73 | 9 => c81 | 10 => c89 | 11 => c97 | 12 => c105 | 13 => c113 | 14 => c120 | 15 => c127 | 16 => c134 | 17 => c142 | 18 => c150 | _ => c158) (km_0 20 ceiling)) [0, 1, 2, 3, 4, 5, 6, 7, 8, 9, 10, 11, 12, 13, 14, 15, 16, 17, 18, 19] (by decide) rfl
          have hK9 := hK.sub (tys' := km_t (fun k => match k with | 1 => c17 | 2 => c25 | 3 => c33 | 4 => c41 | 5 => c49 | 6 => c57 | 7 => c65 | 8 => c73 | 9 => c81 | 10 => c89 | 11 => c97 | 12 => c105 | 13 => c113 | 14 => c120 | 15 => c127 | 16 => c134 | 17 => c142 | 18 => c150 | _ => c158)) [0, 1, 2, 3, 4, 5, 6, 7, 8, 9, 10, 11, 12, 13, 14, 15, 16, 17, 18] rfl
          exact W.vret hx hb hr (fun t ht hW => ⟨⟨(fun k => match k with | 0 => h0 | 1 => q17 | 2 => q25 | 3 => q33 | 4 => q41 | 5 => q49 | 6 => q57 | 7 => q65 | 8 => q73 | 9 => q81 | 10 => q89 | 11 => q97 | 12 => q105 | 13 => q113 | 14 => q120 | 15 => q127 | 16 => q134 | 17 => q142 | 18 => q150 | _ => q158, fun k => match k with | 1 => c17 | 2 => c25 | 3 => c33 | 4 => c41 | 5 => c49 | 6 => c57 | 7 => c65 | 8 => c73 | 9 => c81 | 10 => c89 | 11 => c97 | 12 => c105 | 13 => c113 | 14 => c120 | 15 => c127 | 16 => c134 | 17 => c142 | 18 => c150 | _ => c158), rfl, rfl, by rw [ht]; exact hP9, va_K.moved hW.alike hK9, hD9⟩, hS.F ht⟩) hS.2.2 dM_init_233 hlocks
        · rw [if_neg c_201] at hf
          refine lv_bipush (v := 31) hx hb dM_init_204 (by decide) ?_
          refine lv_goto (tgt := 210) hx hb dM_init_206 (by decide) ?_
          refine va_putF (D := (dC, dI)) (ci := 3) (v := .int 31) (ty := .int) (C := R_M) (T := T_M) (N := 23) hx hb hts uw_M ty_M ty_M_ok nm_M hown hK hP hD hS 0 rfl rfl 1 (by decide) (hts _ (List.mem_cons_of_mem _ wd_332)) (fun _ h9 => h9) rfl hin rfl (by decide +kernel) rfl rfl (Nat.le_of_ble_eq_true rfl) dM_init_210 (fun H locs hP hD hS => ?_)
          have hP : va_P (dC, dI) vwCl [(h0, .inr (3, [.int 20, .int 31, .int 0, .int 0, .ref q17, .ref q25, .ref q33, .ref q41, .ref q49, .ref q57, .ref q65, .ref q73, .ref q81, .ref q89, .ref q97, .ref q105, .ref q113, .ref q120, .ref q127, .ref q134, .ref q142, .ref q150, .ref q158])), (q17, .inl (c17, 8, .inl (fun _ => 0))), (q25, .inl (c25, 8, .inl (fun _ => 0))), (q33, .inl (c33, 8, .inl (fun _ => 0))), (q41, .inl (c41, 8, .inl (fun _ => 0))), (q49, .inl (c49, 8, .inl (fun _ => 0))), (q57, .inl (c57, 8, .inl (fun _ => 0))), (q65, .inl (c65, 8, .inl (fun _ => 0))), (q73, .inl (c73, 8, .inl (fun _ => 0))), (q81, .inl (c81, 8, .inl (fun _ => 0))), (q89, .inl (c89, 8, .inl (fun _ => 0))), (q97, .inl (c97, 8, .inl (fun _ => 0))), (q105, .inl (c105, 8, .inl (fun _ => 0))), (q113, .inl (c113, 8, .inl (fun _ => 0))), (q120, .inl (c120, 4, .inl (fun _ => 0))), (q127, .inl (c127, 2, .inl (fun _ => 0))), (q134, .inl (c134, 2, .inl (fun _ => 0))), (q142, .inl (c142, 8, .inl (fun _ => 0))), (q150, .inl (c150, 8, .inl (fun _ => 0))), (q158, .inl (c158, 8, .inl (fun _ => 0)))] H := hP
          have hD : va_D A [(h0, .inr (3, [.int 20, .int 31, .int 0, .int 0, .ref q17, .ref q25, .ref q33, .ref q41, .ref q49, .ref q57, .ref q65, .ref q73, .ref q81, .ref q89, .ref q97, .ref q105, .ref q113, .ref q120, .ref q127, .ref q134, .ref q142, .ref q150, .ref q158])), (q17, .inl (c17, 8, .inl (fun _ => 0))), (q25, .inl (c25, 8, .inl (fun _ => 0))), (q33, .inl (c33, 8, .inl (fun _ => 0))), (q41, .inl (c41, 8, .inl (fun _ => 0))), (q49, .inl (c49, 8, .inl (fun _ => 0))), (q57, .inl (c57, 8, .inl (fun _ => 0))), (q65, .inl (c65, 8, .inl (fun _ => 0))), (q73, .inl (c73, 8, .inl (fun _ => 0))), (q81, .inl (c81, 8, .inl (fun _ => 0))), (q89, .inl (c89, 8, .inl (fun _ => 0))), (q97, .inl (c97, 8, .inl (fun _ => 0))), (q105, .inl (c105, 8, .inl (fun _ => 0))), (q113, .inl (c113, 8, .inl (fun _ => 0))), (q120, .inl (c120, 4, .inl (fun _ => 0))), (q127, .inl (c127, 2, .inl (fun _ => 0))), (q134, .inl (c134, 2, .inl (fun _ => 0))), (q142, .inl (c142, 8, .inl (fun _ => 0))), (q150, .inl (c150, 8, .inl (fun _ => 0))), (q158, .inl (c158, 8, .inl (fun _ => 0)))] := hD
          refine lv_iconst (v := 0) hx hb dM_init_213 (by decide) ?_
          refine lv_istore_n (lv' := [(3, .int 0), (0, .ref h0), (1, .int slice), (2, .int ceiling)]) hx hb dM_init_214 rfl hl (by decide) rfl (fun ls hl => ?_)
          refine lv_iload_n hx hb dM_init_215 rfl (lv_at hl 0 rfl) ?_
          refine lv_iconst (v := 4) hx hb dM_init_216 (by decide) ?_
          refine lv_icmp_ge (tgt := 233) hx hb dM_init_217 (by decide) (fun c9 => absurd c9 (by decide)) (fun _ => ?_)
          refine lv_aload_n hx hb dM_init_220 rfl (lv_at hl 1 rfl) ?_
          refine va_get (D := (dC, dI)) (ci := 3) (v := .ref q120) (C := R_M) (T := T_M) (N := 23) hx hb hts uw_M hown hK hP 0 rfl rfl 17 (by decide) (hts _ (List.mem_cons_of_mem _ wd_348)) (fun _ h9 => h9) rfl dM_init_221 ?_
          refine lv_iload_n hx hb dM_init_224 rfl (lv_at hl 0 rfl) ?_
          refine lv_iconst (v := (-1)) hx hb dM_init_225 (by decide) ?_
          refine va_iast hx hb hK hP hD hS 14 13 rfl rfl (kk_inl (by decide)) dM_init_226 (fun H locs hP hD hS => ?_)
          rw [kk_c0] at hP hD
          have hP : va_P (dC, dI) vwCl [(h0, .inr (3, [.int 20, .int 31, .int 0, .int 0, .ref q17, .ref q25, .ref q33, .ref q41, .ref q49, .ref q57, .ref q65, .ref q73, .ref q81, .ref q89, .ref q97, .ref q105, .ref q113, .ref q120, .ref q127, .ref q134, .ref q142, .ref q150, .ref q158])), (q17, .inl (c17, 8, .inl (fun _ => 0))), (q25, .inl (c25, 8, .inl (fun _ => 0))), (q33, .inl (c33, 8, .inl (fun _ => 0))), (q41, .inl (c41, 8, .inl (fun _ => 0))), (q49, .inl (c49, 8, .inl (fun _ => 0))), (q57, .inl (c57, 8, .inl (fun _ => 0))), (q65, .inl (c65, 8, .inl (fun _ => 0))), (q73, .inl (c73, 8, .inl (fun _ => 0))), (q81, .inl (c81, 8, .inl (fun _ => 0))), (q89, .inl (c89, 8, .inl (fun _ => 0))), (q97, .inl (c97, 8, .inl (fun _ => 0))), (q105, .inl (c105, 8, .inl (fun _ => 0))), (q113, .inl (c113, 8, .inl (fun _ => 0))), (q120, .inl (c120, 4, .inl (upd (fun _ => 0) 0 (-1)))), (q127, .inl (c127, 2, .inl (fun _ => 0))), (q134, .inl (c134, 2, .inl (fun _ => 0))), (q142, .inl (c142, 8, .inl (fun _ => 0))), (q150, .inl (c150, 8, .inl (fun _ => 0))), (q158, .inl (c158, 8, .inl (fun _ => 0)))] H := hP
          have hD : va_D A [(h0, .inr (3, [.int 20, .int 31, .int 0, .int 0, .ref q17, .ref q25, .ref q33, .ref q41, .ref q49, .ref q57, .ref q65, .ref q73, .ref q81, .ref q89, .ref q97, .ref q105, .ref q113, .ref q120, .ref q127, .ref q134, .ref q142, .ref q150, .ref q158])), (q17, .inl (c17, 8, .inl (fun _ => 0))), (q25, .inl (c25, 8, .inl (fun _ => 0))), (q33, .inl (c33, 8, .inl (fun _ => 0))), (q41, .inl (c41, 8, .inl (fun _ => 0))), (q49, .inl (c49, 8, .inl (fun _ => 0))), (q57, .inl (c57, 8, .inl (fun _ => 0))), (q65, .inl (c65, 8, .inl (fun _ => 0))), (q73, .inl (c73, 8, .inl (fun _ => 0))), (q81, .inl (c81, 8, .inl (fun _ => 0))), (q89, .inl (c89, 8, .inl (fun _ => 0))), (q97, .inl (c97, 8, .inl (fun _ => 0))), (q105, .inl (c105, 8, .inl (fun _ => 0))), (q113, .inl (c113, 8, .inl (fun _ => 0))), (q120, .inl (c120, 4, .inl (upd (fun _ => 0) 0 (-1)))), (q127, .inl (c127, 2, .inl (fun _ => 0))), (q134, .inl (c134, 2, .inl (fun _ => 0))), (q142, .inl (c142, 8, .inl (fun _ => 0))), (q150, .inl (c150, 8, .inl (fun _ => 0))), (q158, .inl (c158, 8, .inl (fun _ => 0)))] := hD
          refine lv_iinc (v := 1) (lv' := [(3, .int 1), (0, .ref h0), (1, .int slice), (2, .int ceiling)]) hx hb dM_init_227 hl (k := 0) rfl (by decide) (by decide) rfl (fun ls hl => ?_)
          refine lv_goto (tgt := 215) hx hb dM_init_230 (by decide) ?_
          refine lv_iload_n hx hb dM_init_215 rfl (lv_at hl 0 rfl) ?_
          refine lv_iconst (v := 4) hx hb dM_init_216 (by decide) ?_
          refine lv_icmp_ge (tgt := 233) hx hb dM_init_217 (by decide) (fun c9 => absurd c9 (by decide)) (fun _ => ?_)
          refine lv_aload_n hx hb dM_init_220 rfl (lv_at hl 1 rfl) ?_
          refine va_get (D := (dC, dI)) (ci := 3) (v := .ref q120) (C := R_M) (T := T_M) (N := 23) hx hb hts uw_M hown hK hP 0 rfl rfl 17 (by decide) (hts _ (List.mem_cons_of_mem _ wd_348)) (fun _ h9 => h9) rfl dM_init_221 ?_
          refine lv_iload_n hx hb dM_init_224 rfl (lv_at hl 0 rfl) ?_
          refine lv_iconst (v := (-1)) hx hb dM_init_225 (by decide) ?_
          refine va_iast hx hb hK hP hD hS 14 13 rfl rfl (kk_inl (by decide)) dM_init_226 (fun H locs hP hD hS => ?_)
          rw [kk_c1] at hP hD
          have hP : va_P (dC, dI) vwCl [(h0, .inr (3, [.int 20, .int 31, .int 0, .int 0, .ref q17, .ref q25, .ref q33, .ref q41, .ref q49, .ref q57, .ref q65, .ref q73, .ref q81, .ref q89, .ref q97, .ref q105, .ref q113, .ref q120, .ref q127, .ref q134, .ref q142, .ref q150, .ref q158])), (q17, .inl (c17, 8, .inl (fun _ => 0))), (q25, .inl (c25, 8, .inl (fun _ => 0))), (q33, .inl (c33, 8, .inl (fun _ => 0))), (q41, .inl (c41, 8, .inl (fun _ => 0))), (q49, .inl (c49, 8, .inl (fun _ => 0))), (q57, .inl (c57, 8, .inl (fun _ => 0))), (q65, .inl (c65, 8, .inl (fun _ => 0))), (q73, .inl (c73, 8, .inl (fun _ => 0))), (q81, .inl (c81, 8, .inl (fun _ => 0))), (q89, .inl (c89, 8, .inl (fun _ => 0))), (q97, .inl (c97, 8, .inl (fun _ => 0))), (q105, .inl (c105, 8, .inl (fun _ => 0))), (q113, .inl (c113, 8, .inl (fun _ => 0))), (q120, .inl (c120, 4, .inl (upd (upd (fun _ => 0) 0 (-1)) 1 (-1)))), (q127, .inl (c127, 2, .inl (fun _ => 0))), (q134, .inl (c134, 2, .inl (fun _ => 0))), (q142, .inl (c142, 8, .inl (fun _ => 0))), (q150, .inl (c150, 8, .inl (fun _ => 0))), (q158, .inl (c158, 8, .inl (fun _ => 0)))] H := hP
          have hD : va_D A [(h0, .inr (3, [.int 20, .int 31, .int 0, .int 0, .ref q17, .ref q25, .ref q33, .ref q41, .ref q49, .ref q57, .ref q65, .ref q73, .ref q81, .ref q89, .ref q97, .ref q105, .ref q113, .ref q120, .ref q127, .ref q134, .ref q142, .ref q150, .ref q158])), (q17, .inl (c17, 8, .inl (fun _ => 0))), (q25, .inl (c25, 8, .inl (fun _ => 0))), (q33, .inl (c33, 8, .inl (fun _ => 0))), (q41, .inl (c41, 8, .inl (fun _ => 0))), (q49, .inl (c49, 8, .inl (fun _ => 0))), (q57, .inl (c57, 8, .inl (fun _ => 0))), (q65, .inl (c65, 8, .inl (fun _ => 0))), (q73, .inl (c73, 8, .inl (fun _ => 0))), (q81, .inl (c81, 8, .inl (fun _ => 0))), (q89, .inl (c89, 8, .inl (fun _ => 0))), (q97, .inl (c97, 8, .inl (fun _ => 0))), (q105, .inl (c105, 8, .inl (fun _ => 0))), (q113, .inl (c113, 8, .inl (fun _ => 0))), (q120, .inl (c120, 4, .inl (upd (upd (fun _ => 0) 0 (-1)) 1 (-1)))), (q127, .inl (c127, 2, .inl (fun _ => 0))), (q134, .inl (c134, 2, .inl (fun _ => 0))), (q142, .inl (c142, 8, .inl (fun _ => 0))), (q150, .inl (c150, 8, .inl (fun _ => 0))), (q158, .inl (c158, 8, .inl (fun _ => 0)))] := hD
          refine lv_iinc (v := 2) (lv' := [(3, .int 2), (0, .ref h0), (1, .int slice), (2, .int ceiling)]) hx hb dM_init_227 hl (k := 0) rfl (by decide) (by decide) rfl (fun ls hl => ?_)
          refine lv_goto (tgt := 215) hx hb dM_init_230 (by decide) ?_
          refine lv_iload_n hx hb dM_init_215 rfl (lv_at hl 0 rfl) ?_
          refine lv_iconst (v := 4) hx hb dM_init_216 (by decide) ?_
          refine lv_icmp_ge (tgt := 233) hx hb dM_init_217 (by decide) (fun c9 => absurd c9 (by decide)) (fun _ => ?_)
          refine lv_aload_n hx hb dM_init_220 rfl (lv_at hl 1 rfl) ?_
          refine va_get (D := (dC, dI)) (ci := 3) (v := .ref q120) (C := R_M) (T := T_M) (N := 23) hx hb hts uw_M hown hK hP 0 rfl rfl 17 (by decide) (hts _ (List.mem_cons_of_mem _ wd_348)) (fun _ h9 => h9) rfl dM_init_221 ?_
          refine lv_iload_n hx hb dM_init_224 rfl (lv_at hl 0 rfl) ?_
          refine lv_iconst (v := (-1)) hx hb dM_init_225 (by decide) ?_
          refine va_iast hx hb hK hP hD hS 14 13 rfl rfl (kk_inl (by decide)) dM_init_226 (fun H locs hP hD hS => ?_)
          rw [kk_c2] at hP hD
          have hP : va_P (dC, dI) vwCl [(h0, .inr (3, [.int 20, .int 31, .int 0, .int 0, .ref q17, .ref q25, .ref q33, .ref q41, .ref q49, .ref q57, .ref q65, .ref q73, .ref q81, .ref q89, .ref q97, .ref q105, .ref q113, .ref q120, .ref q127, .ref q134, .ref q142, .ref q150, .ref q158])), (q17, .inl (c17, 8, .inl (fun _ => 0))), (q25, .inl (c25, 8, .inl (fun _ => 0))), (q33, .inl (c33, 8, .inl (fun _ => 0))), (q41, .inl (c41, 8, .inl (fun _ => 0))), (q49, .inl (c49, 8, .inl (fun _ => 0))), (q57, .inl (c57, 8, .inl (fun _ => 0))), (q65, .inl (c65, 8, .inl (fun _ => 0))), (q73, .inl (c73, 8, .inl (fun _ => 0))), (q81, .inl (c81, 8, .inl (fun _ => 0))), (q89, .inl (c89, 8, .inl (fun _ => 0))), (q97, .inl (c97, 8, .inl (fun _ => 0))), (q105, .inl (c105, 8, .inl (fun _ => 0))), (q113, .inl (c113, 8, .inl (fun _ => 0))), (q120, .inl (c120, 4, .inl (upd (upd (upd (fun _ => 0) 0 (-1)) 1 (-1)) 2 (-1)))), (q127, .inl (c127, 2, .inl (fun _ => 0))), (q134, .inl (c134, 2, .inl (fun _ => 0))), (q142, .inl (c142, 8, .inl (fun _ => 0))), (q150, .inl (c150, 8, .inl (fun _ => 0))), (q158, .inl (c158, 8, .inl (fun _ => 0)))] H := hP
          have hD : va_D A [(h0, .inr (3, [.int 20, .int 31, .int 0, .int 0, .ref q17, .ref q25, .ref q33, .ref q41, .ref q49, .ref q57, .ref q65, .ref q73, .ref q81, .ref q89, .ref q97, .ref q105, .ref q113, .ref q120, .ref q127, .ref q134, .ref q142, .ref q150, .ref q158])), (q17, .inl (c17, 8, .inl (fun _ => 0))), (q25, .inl (c25, 8, .inl (fun _ => 0))), (q33, .inl (c33, 8, .inl (fun _ => 0))), (q41, .inl (c41, 8, .inl (fun _ => 0))), (q49, .inl (c49, 8, .inl (fun _ => 0))), (q57, .inl (c57, 8, .inl (fun _ => 0))), (q65, .inl (c65, 8, .inl (fun _ => 0))), (q73, .inl (c73, 8, .inl (fun _ => 0))), (q81, .inl (c81, 8, .inl (fun _ => 0))), (q89, .inl (c89, 8, .inl (fun _ => 0))), (q97, .inl (c97, 8, .inl (fun _ => 0))), (q105, .inl (c105, 8, .inl (fun _ => 0))), (q113, .inl (c113, 8, .inl (fun _ => 0))), (q120, .inl (c120, 4, .inl (upd (upd (upd (fun _ => 0) 0 (-1)) 1 (-1)) 2 (-1)))), (q127, .inl (c127, 2, .inl (fun _ => 0))), (q134, .inl (c134, 2, .inl (fun _ => 0))), (q142, .inl (c142, 8, .inl (fun _ => 0))), (q150, .inl (c150, 8, .inl (fun _ => 0))), (q158, .inl (c158, 8, .inl (fun _ => 0)))] := hD
          refine lv_iinc (v := 3) (lv' := [(3, .int 3), (0, .ref h0), (1, .int slice), (2, .int ceiling)]) hx hb dM_init_227 hl (k := 0) rfl (by decide) (by decide) rfl (fun ls hl => ?_)
          refine lv_goto (tgt := 215) hx hb dM_init_230 (by decide) ?_
          refine lv_iload_n hx hb dM_init_215 rfl (lv_at hl 0 rfl) ?_
          refine lv_iconst (v := 4) hx hb dM_init_216 (by decide) ?_
          refine lv_icmp_ge (tgt := 233) hx hb dM_init_217 (by decide) (fun c9 => absurd c9 (by decide)) (fun _ => ?_)
          refine lv_aload_n hx hb dM_init_220 rfl (lv_at hl 1 rfl) ?_
          refine va_get (D := (dC, dI)) (ci := 3) (v := .ref q120) (C := R_M) (T := T_M) (N := 23) hx hb hts uw_M hown hK hP 0 rfl rfl 17 (by decide) (hts _ (List.mem_cons_of_mem _ wd_348)) (fun _ h9 => h9) rfl dM_init_221 ?_
          refine lv_iload_n hx hb dM_init_224 rfl (lv_at hl 0 rfl) ?_
          refine lv_iconst (v := (-1)) hx hb dM_init_225 (by decide) ?_
          refine va_iast hx hb hK hP hD hS 14 13 rfl rfl (kk_inl (by decide)) dM_init_226 (fun H locs hP hD hS => ?_)
          rw [kk_c3] at hP hD
          have hP : va_P (dC, dI) vwCl [(h0, .inr (3, [.int 20, .int 31, .int 0, .int 0, .ref q17, .ref q25, .ref q33, .ref q41, .ref q49, .ref q57, .ref q65, .ref q73, .ref q81, .ref q89, .ref q97, .ref q105, .ref q113, .ref q120, .ref q127, .ref q134, .ref q142, .ref q150, .ref q158])), (q17, .inl (c17, 8, .inl (fun _ => 0))), (q25, .inl (c25, 8, .inl (fun _ => 0))), (q33, .inl (c33, 8, .inl (fun _ => 0))), (q41, .inl (c41, 8, .inl (fun _ => 0))), (q49, .inl (c49, 8, .inl (fun _ => 0))), (q57, .inl (c57, 8, .inl (fun _ => 0))), (q65, .inl (c65, 8, .inl (fun _ => 0))), (q73, .inl (c73, 8, .inl (fun _ => 0))), (q81, .inl (c81, 8, .inl (fun _ => 0))), (q89, .inl (c89, 8, .inl (fun _ => 0))), (q97, .inl (c97, 8, .inl (fun _ => 0))), (q105, .inl (c105, 8, .inl (fun _ => 0))), (q113, .inl (c113, 8, .inl (fun _ => 0))), (q120, .inl (c120, 4, .inl (upd (upd (upd (upd (fun _ => 0) 0 (-1)) 1 (-1)) 2 (-1)) 3 (-1)))), (q127, .inl (c127, 2, .inl (fun _ => 0))), (q134, .inl (c134, 2, .inl (fun _ => 0))), (q142, .inl (c142, 8, .inl (fun _ => 0))), (q150, .inl (c150, 8, .inl (fun _ => 0))), (q158, .inl (c158, 8, .inl (fun _ => 0)))] H := hP
          have hD : va_D A [(h0, .inr (3, [.int 20, .int 31, .int 0, .int 0, .ref q17, .ref q25, .ref q33, .ref q41, .ref q49, .ref q57, .ref q65, .ref q73, .ref q81, .ref q89, .ref q97, .ref q105, .ref q113, .ref q120, .ref q127, .ref q134, .ref q142, .ref q150, .ref q158])), (q17, .inl (c17, 8, .inl (fun _ => 0))), (q25, .inl (c25, 8, .inl (fun _ => 0))), (q33, .inl (c33, 8, .inl (fun _ => 0))), (q41, .inl (c41, 8, .inl (fun _ => 0))), (q49, .inl (c49, 8, .inl (fun _ => 0))), (q57, .inl (c57, 8, .inl (fun _ => 0))), (q65, .inl (c65, 8, .inl (fun _ => 0))), (q73, .inl (c73, 8, .inl (fun _ => 0))), (q81, .inl (c81, 8, .inl (fun _ => 0))), (q89, .inl (c89, 8, .inl (fun _ => 0))), (q97, .inl (c97, 8, .inl (fun _ => 0))), (q105, .inl (c105, 8, .inl (fun _ => 0))), (q113, .inl (c113, 8, .inl (fun _ => 0))), (q120, .inl (c120, 4, .inl (upd (upd (upd (upd (fun _ => 0) 0 (-1)) 1 (-1)) 2 (-1)) 3 (-1)))), (q127, .inl (c127, 2, .inl (fun _ => 0))), (q134, .inl (c134, 2, .inl (fun _ => 0))), (q142, .inl (c142, 8, .inl (fun _ => 0))), (q150, .inl (c150, 8, .inl (fun _ => 0))), (q158, .inl (c158, 8, .inl (fun _ => 0)))] := hD
          refine lv_iinc (v := 4) (lv' := [(3, .int 4), (0, .ref h0), (1, .int slice), (2, .int ceiling)]) hx hb dM_init_227 hl (k := 0) rfl (by decide) (by decide) rfl (fun ls hl => ?_)
          refine lv_goto (tgt := 215) hx hb dM_init_230 (by decide) ?_
          refine lv_iload_n hx hb dM_init_215 rfl (lv_at hl 0 rfl) ?_
          refine lv_iconst (v := 4) hx hb dM_init_216 (by decide) ?_
          refine lv_icmp_ge (tgt := 233) hx hb dM_init_217 (by decide) (fun _ => ?_) (fun c9 => absurd (by decide) c9)
          subst hf
          have hP9 := hP.sub (ws' := km_w (fun k => match k with | 0 => h0 | 1 => q17 | 2 => q25 | 3 => q33 | 4 => q41 | 5 => q49 | 6 => q57 | 7 => q65 | 8 => q73 | 9 => q81 | 10 => q89 | 11 => q97 | 12 => q105 | 13 => q113 | 14 => q120 | 15 => q127 | 16 => q134 | 17 => q142 | 18 => q150 | _ => q158) (fun k => match k with | 1 => c17 | 2 => c25 | 3 => c33 | 4 => c41 | 5 => c49 | 6 => c57 | 7 => c65 | 8 => c73 | 9 => c81 | 10 => c89 | 11 => c97 | 12 => c105 | 13 => c113 | 14 => c120 | 15 => c127 | 16 => c134 | 17 => c142 | 18 => c150 | _ => c158) (km_0 20 31)) [0, 1, 2, 3, 4, 5, 6, 7, 8, 9, 10, 11, 12, 13, 14, 15, 16, 17, 18, 19] rfl
          have hD9 := hD.sub (ws' := km_w (fun k => match k with | 0 => h0 | 1 => q17 | 2 => q25 | 3 => q33 | 4 => q41 | 5 => q49 | 6 => q57 | 7 => q65 | 8 => q73 | 9 => q81 | 10 => q89 | 11 => q97 | 12 => q105 | 13 => q113 | 14 => q120 | 15 => q127 | 16 => q134 | 17 => q142 | 18 => q150 | _ => q158) (fun k => match k with | 1 => c17 | 2 => c25 | 3 => c33 | 4 => c41 | 5 => c49 | 6 => c57 | 7 => c65 | 8 => c73 | 9 => c81 | 10 => c89 | 11 => c97 | 12 => c105 | 13 => c113 | 14 => c120 | 15 => c127 | 16 => c134 | 17 => c142 | 18 => c150 | _ => c158) (km_0 20 31)) [0, 1, 2, 3, 4, 5, 6, 7, 8, 9, 10, 11, 12, 13, 14, 15, 16, 17, 18, 19] (by decide) rfl
          have hK9 := hK.sub (tys' := km_t (fun k => match k with | 1 => c17 | 2 => c25 | 3 => c33 | 4 => c41 | 5 => c49 | 6 => c57 | 7 => c65 | 8 => c73 | 9 => c81 | 10 => c89 | 11 => c97 | 12 => c105 | 13 => c113 | 14 => c120 | 15 => c127 | 16 => c134 | 17 => c142 | 18 => c150 | _ => c158)) [0, 1, 2, 3, 4, 5, 6, 7, 8, 9, 10, 11, 12, 13, 14, 15, 16, 17, 18] rfl
          exact W.vret hx hb hr (fun t ht hW => ⟨⟨(fun k => match k with | 0 => h0 | 1 => q17 | 2 => q25 | 3 => q33 | 4 => q41 | 5 => q49 | 6 => q57 | 7 => q65 | 8 => q73 | 9 => q81 | 10 => q89 | 11 => q97 | 12 => q105 | 13 => q113 | 14 => q120 | 15 => q127 | 16 => q134 | 17 => q142 | 18 => q150 | _ => q158, fun k => match k with | 1 => c17 | 2 => c25 | 3 => c33 | 4 => c41 | 5 => c49 | 6 => c57 | 7 => c65 | 8 => c73 | 9 => c81 | 10 => c89 | 11 => c97 | 12 => c105 | 13 => c113 | 14 => c120 | 15 => c127 | 16 => c134 | 17 => c142 | 18 => c150 | _ => c158), rfl, rfl, by rw [ht]; exact hP9, va_K.moved hW.alike hK9, hD9⟩, hS.F ht⟩) hS.2.2 dM_init_233 hlocks
      · rw [if_neg c_191] at hf
        refine lv_iconst (v := 1) hx hb dM_init_194 (by decide) ?_
        refine lv_goto (tgt := 210) hx hb dM_init_195 (by decide) ?_
        refine va_putF (D := (dC, dI)) (ci := 3) (v := .int 1) (ty := .int) (C := R_M) (T := T_M) (N := 23) hx hb hts uw_M ty_M ty_M_ok nm_M hown hK hP hD hS 0 rfl rfl 1 (by decide) (hts _ (List.mem_cons_of_mem _ wd_332)) (fun _ h9 => h9) rfl hin rfl (by decide +kernel) rfl rfl (Nat.le_of_ble_eq_true rfl) dM_init_210 (fun H locs hP hD hS => ?_)
        have hP : va_P (dC, dI) vwCl [(h0, .inr (3, [.int 20, .int 1, .int 0, .int 0, .ref q17, .ref q25, .ref q33, .ref q41, .ref q49, .ref q57, .ref q65, .ref q73, .ref q81, .ref q89, .ref q97, .ref q105, .ref q113, .ref q120, .ref q127, .ref q134, .ref q142, .ref q150, .ref q158])), (q17, .inl (c17, 8, .inl (fun _ => 0))), (q25, .inl (c25, 8, .inl (fun _ => 0))), (q33, .inl (c33, 8, .inl (fun _ => 0))), (q41, .inl (c41, 8, .inl (fun _ => 0))), (q49, .inl (c49, 8, .inl (fun _ => 0))), (q57, .inl (c57, 8, .inl (fun _ => 0))), (q65, .inl (c65, 8, .inl (fun _ => 0))), (q73, .inl (c73, 8, .inl (fun _ => 0))), (q81, .inl (c81, 8, .inl (fun _ => 0))), (q89, .inl (c89, 8, .inl (fun _ => 0))), (q97, .inl (c97, 8, .inl (fun _ => 0))), (q105, .inl (c105, 8, .inl (fun _ => 0))), (q113, .inl (c113, 8, .inl (fun _ => 0))), (q120, .inl (c120, 4, .inl (fun _ => 0))), (q127, .inl (c127, 2, .inl (fun _ => 0))), (q134, .inl (c134, 2, .inl (fun _ => 0))), (q142, .inl (c142, 8, .inl (fun _ => 0))), (q150, .inl (c150, 8, .inl (fun _ => 0))), (q158, .inl (c158, 8, .inl (fun _ => 0)))] H := hP
        have hD : va_D A [(h0, .inr (3, [.int 20, .int 1, .int 0, .int 0, .ref q17, .ref q25, .ref q33, .ref q41, .ref q49, .ref q57, .ref q65, .ref q73, .ref q81, .ref q89, .ref q97, .ref q105, .ref q113, .ref q120, .ref q127, .ref q134, .ref q142, .ref q150, .ref q158])), (q17, .inl (c17, 8, .inl (fun _ => 0))), (q25, .inl (c25, 8, .inl (fun _ => 0))), (q33, .inl (c33, 8, .inl (fun _ => 0))), (q41, .inl (c41, 8, .inl (fun _ => 0))), (q49, .inl (c49, 8, .inl (fun _ => 0))), (q57, .inl (c57, 8, .inl (fun _ => 0))), (q65, .inl (c65, 8, .inl (fun _ => 0))), (q73, .inl (c73, 8, .inl (fun _ => 0))), (q81, .inl (c81, 8, .inl (fun _ => 0))), (q89, .inl (c89, 8, .inl (fun _ => 0))), (q97, .inl (c97, 8, .inl (fun _ => 0))), (q105, .inl (c105, 8, .inl (fun _ => 0))), (q113, .inl (c113, 8, .inl (fun _ => 0))), (q120, .inl (c120, 4, .inl (fun _ => 0))), (q127, .inl (c127, 2, .inl (fun _ => 0))), (q134, .inl (c134, 2, .inl (fun _ => 0))), (q142, .inl (c142, 8, .inl (fun _ => 0))), (q150, .inl (c150, 8, .inl (fun _ => 0))), (q158, .inl (c158, 8, .inl (fun _ => 0)))] := hD
        refine lv_iconst (v := 0) hx hb dM_init_213 (by decide) ?_
        refine lv_istore_n (lv' := [(3, .int 0), (0, .ref h0), (1, .int slice), (2, .int ceiling)]) hx hb dM_init_214 rfl hl (by decide) rfl (fun ls hl => ?_)
        refine lv_iload_n hx hb dM_init_215 rfl (lv_at hl 0 rfl) ?_
        refine lv_iconst (v := 4) hx hb dM_init_216 (by decide) ?_
        refine lv_icmp_ge (tgt := 233) hx hb dM_init_217 (by decide) (fun c9 => absurd c9 (by decide)) (fun _ => ?_)
        refine lv_aload_n hx hb dM_init_220 rfl (lv_at hl 1 rfl) ?_
        refine va_get (D := (dC, dI)) (ci := 3) (v := .ref q120) (C := R_M) (T := T_M) (N := 23) hx hb hts uw_M hown hK hP 0 rfl rfl 17 (by decide) (hts _ (List.mem_cons_of_mem _ wd_348)) (fun _ h9 => h9) rfl dM_init_221 ?_
        refine lv_iload_n hx hb dM_init_224 rfl (lv_at hl 0 rfl) ?_
        refine lv_iconst (v := (-1)) hx hb dM_init_225 (by decide) ?_
        refine va_iast hx hb hK hP hD hS 14 13 rfl rfl (kk_inl (by decide)) dM_init_226 (fun H locs hP hD hS => ?_)
        rw [kk_c0] at hP hD
        have hP : va_P (dC, dI) vwCl [(h0, .inr (3, [.int 20, .int 1, .int 0, .int 0, .ref q17, .ref q25, .ref q33, .ref q41, .ref q49, .ref q57, .ref q65, .ref q73, .ref q81, .ref q89, .ref q97, .ref q105, .ref q113, .ref q120, .ref q127, .ref q134, .ref q142, .ref q150, .ref q158])), (q17, .inl (c17, 8, .inl (fun _ => 0))), (q25, .inl (c25, 8, .inl (fun _ => 0))), (q33, .inl (c33, 8, .inl (fun _ => 0))), (q41, .inl (c41, 8, .inl (fun _ => 0))), (q49, .inl (c49, 8, .inl (fun _ => 0))), (q57, .inl (c57, 8, .inl (fun _ => 0))), (q65, .inl (c65, 8, .inl (fun _ => 0))), (q73, .inl (c73, 8, .inl (fun _ => 0))), (q81, .inl (c81, 8, .inl (fun _ => 0))), (q89, .inl (c89, 8, .inl (fun _ => 0))), (q97, .inl (c97, 8, .inl (fun _ => 0))), (q105, .inl (c105, 8, .inl (fun _ => 0))), (q113, .inl (c113, 8, .inl (fun _ => 0))), (q120, .inl (c120, 4, .inl (upd (fun _ => 0) 0 (-1)))), (q127, .inl (c127, 2, .inl (fun _ => 0))), (q134, .inl (c134, 2, .inl (fun _ => 0))), (q142, .inl (c142, 8, .inl (fun _ => 0))), (q150, .inl (c150, 8, .inl (fun _ => 0))), (q158, .inl (c158, 8, .inl (fun _ => 0)))] H := hP
        have hD : va_D A [(h0, .inr (3, [.int 20, .int 1, .int 0, .int 0, .ref q17, .ref q25, .ref q33, .ref q41, .ref q49, .ref q57, .ref q65, .ref q73, .ref q81, .ref q89, .ref q97, .ref q105, .ref q113, .ref q120, .ref q127, .ref q134, .ref q142, .ref q150, .ref q158])), (q17, .inl (c17, 8, .inl (fun _ => 0))), (q25, .inl (c25, 8, .inl (fun _ => 0))), (q33, .inl (c33, 8, .inl (fun _ => 0))), (q41, .inl (c41, 8, .inl (fun _ => 0))), (q49, .inl (c49, 8, .inl (fun _ => 0))), (q57, .inl (c57, 8, .inl (fun _ => 0))), (q65, .inl (c65, 8, .inl (fun _ => 0))), (q73, .inl (c73, 8, .inl (fun _ => 0))), (q81, .inl (c81, 8, .inl (fun _ => 0))), (q89, .inl (c89, 8, .inl (fun _ => 0))), (q97, .inl (c97, 8, .inl (fun _ => 0))), (q105, .inl (c105, 8, .inl (fun _ => 0))), (q113, .inl (c113, 8, .inl (fun _ => 0))), (q120, .inl (c120, 4, .inl (upd (fun _ => 0) 0 (-1)))), (q127, .inl (c127, 2, .inl (fun _ => 0))), (q134, .inl (c134, 2, .inl (fun _ => 0))), (q142, .inl (c142, 8, .inl (fun _ => 0))), (q150, .inl (c150, 8, .inl (fun _ => 0))), (q158, .inl (c158, 8, .inl (fun _ => 0)))] := hD
        refine lv_iinc (v := 1) (lv' := [(3, .int 1), (0, .ref h0), (1, .int slice), (2, .int ceiling)]) hx hb dM_init_227 hl (k := 0) rfl (by decide) (by decide) rfl (fun ls hl => ?_)
        refine lv_goto (tgt := 215) hx hb dM_init_230 (by decide) ?_
        refine lv_iload_n hx hb dM_init_215 rfl (lv_at hl 0 rfl) ?_
        refine lv_iconst (v := 4) hx hb dM_init_216 (by decide) ?_
        refine lv_icmp_ge (tgt := 233) hx hb dM_init_217 (by decide) (fun c9 => absurd c9 (by decide)) (fun _ => ?_)
        refine lv_aload_n hx hb dM_init_220 rfl (lv_at hl 1 rfl) ?_
        refine va_get (D := (dC, dI)) (ci := 3) (v := .ref q120) (C := R_M) (T := T_M) (N := 23) hx hb hts uw_M hown hK hP 0 rfl rfl 17 (by decide) (hts _ (List.mem_cons_of_mem _ wd_348)) (fun _ h9 => h9) rfl dM_init_221 ?_
        refine lv_iload_n hx hb dM_init_224 rfl (lv_at hl 0 rfl) ?_
        refine lv_iconst (v := (-1)) hx hb dM_init_225 (by decide) ?_
        refine va_iast hx hb hK hP hD hS 14 13 rfl rfl (kk_inl (by decide)) dM_init_226 (fun H locs hP hD hS => ?_)
        rw [kk_c1] at hP hD
        have hP : va_P (dC, dI) vwCl [(h0, .inr (3, [.int 20, .int 1, .int 0, .int 0, .ref q17, .ref q25, .ref q33, .ref q41, .ref q49, .ref q57, .ref q65, .ref q73, .ref q81, .ref q89, .ref q97, .ref q105, .ref q113, .ref q120, .ref q127, .ref q134, .ref q142, .ref q150, .ref q158])), (q17, .inl (c17, 8, .inl (fun _ => 0))), (q25, .inl (c25, 8, .inl (fun _ => 0))), (q33, .inl (c33, 8, .inl (fun _ => 0))), (q41, .inl (c41, 8, .inl (fun _ => 0))), (q49, .inl (c49, 8, .inl (fun _ => 0))), (q57, .inl (c57, 8, .inl (fun _ => 0))), (q65, .inl (c65, 8, .inl (fun _ => 0))), (q73, .inl (c73, 8, .inl (fun _ => 0))), (q81, .inl (c81, 8, .inl (fun _ => 0))), (q89, .inl (c89, 8, .inl (fun _ => 0))), (q97, .inl (c97, 8, .inl (fun _ => 0))), (q105, .inl (c105, 8, .inl (fun _ => 0))), (q113, .inl (c113, 8, .inl (fun _ => 0))), (q120, .inl (c120, 4, .inl (upd (upd (fun _ => 0) 0 (-1)) 1 (-1)))), (q127, .inl (c127, 2, .inl (fun _ => 0))), (q134, .inl (c134, 2, .inl (fun _ => 0))), (q142, .inl (c142, 8, .inl (fun _ => 0))), (q150, .inl (c150, 8, .inl (fun _ => 0))), (q158, .inl (c158, 8, .inl (fun _ => 0)))] H := hP
        have hD : va_D A [(h0, .inr (3, [.int 20, .int 1, .int 0, .int 0, .ref q17, .ref q25, .ref q33, .ref q41, .ref q49, .ref q57, .ref q65, .ref q73, .ref q81, .ref q89, .ref q97, .ref q105, .ref q113, .ref q120, .ref q127, .ref q134, .ref q142, .ref q150, .ref q158])), (q17, .inl (c17, 8, .inl (fun _ => 0))), (q25, .inl (c25, 8, .inl (fun _ => 0))), (q33, .inl (c33, 8, .inl (fun _ => 0))), (q41, .inl (c41, 8, .inl (fun _ => 0))), (q49, .inl (c49, 8, .inl (fun _ => 0))), (q57, .inl (c57, 8, .inl (fun _ => 0))), (q65, .inl (c65, 8, .inl (fun _ => 0))), (q73, .inl (c73, 8, .inl (fun _ => 0))), (q81, .inl (c81, 8, .inl (fun _ => 0))), (q89, .inl (c89, 8, .inl (fun _ => 0))), (q97, .inl (c97, 8, .inl (fun _ => 0))), (q105, .inl (c105, 8, .inl (fun _ => 0))), (q113, .inl (c113, 8, .inl (fun _ => 0))), (q120, .inl (c120, 4, .inl (upd (upd (fun _ => 0) 0 (-1)) 1 (-1)))), (q127, .inl (c127, 2, .inl (fun _ => 0))), (q134, .inl (c134, 2, .inl (fun _ => 0))), (q142, .inl (c142, 8, .inl (fun _ => 0))), (q150, .inl (c150, 8, .inl (fun _ => 0))), (q158, .inl (c158, 8, .inl (fun _ => 0)))] := hD
        refine lv_iinc (v := 2) (lv' := [(3, .int 2), (0, .ref h0), (1, .int slice), (2, .int ceiling)]) hx hb dM_init_227 hl (k := 0) rfl (by decide) (by decide) rfl (fun ls hl => ?_)
        refine lv_goto (tgt := 215) hx hb dM_init_230 (by decide) ?_
        refine lv_iload_n hx hb dM_init_215 rfl (lv_at hl 0 rfl) ?_
        refine lv_iconst (v := 4) hx hb dM_init_216 (by decide) ?_
        refine lv_icmp_ge (tgt := 233) hx hb dM_init_217 (by decide) (fun c9 => absurd c9 (by decide)) (fun _ => ?_)
        refine lv_aload_n hx hb dM_init_220 rfl (lv_at hl 1 rfl) ?_
        refine va_get (D := (dC, dI)) (ci := 3) (v := .ref q120) (C := R_M) (T := T_M) (N := 23) hx hb hts uw_M hown hK hP 0 rfl rfl 17 (by decide) (hts _ (List.mem_cons_of_mem _ wd_348)) (fun _ h9 => h9) rfl dM_init_221 ?_
        refine lv_iload_n hx hb dM_init_224 rfl (lv_at hl 0 rfl) ?_
        refine lv_iconst (v := (-1)) hx hb dM_init_225 (by decide) ?_
        refine va_iast hx hb hK hP hD hS 14 13 rfl rfl (kk_inl (by decide)) dM_init_226 (fun H locs hP hD hS => ?_)
        rw [kk_c2] at hP hD
        have hP : va_P (dC, dI) vwCl [(h0, .inr (3, [.int 20, .int 1, .int 0, .int 0, .ref q17, .ref q25, .ref q33, .ref q41, .ref q49, .ref q57, .ref q65, .ref q73, .ref q81, .ref q89, .ref q97, .ref q105, .ref q113, .ref q120, .ref q127, .ref q134, .ref q142, .ref q150, .ref q158])), (q17, .inl (c17, 8, .inl (fun _ => 0))), (q25, .inl (c25, 8, .inl (fun _ => 0))), (q33, .inl (c33, 8, .inl (fun _ => 0))), (q41, .inl (c41, 8, .inl (fun _ => 0))), (q49, .inl (c49, 8, .inl (fun _ => 0))), (q57, .inl (c57, 8, .inl (fun _ => 0))), (q65, .inl (c65, 8, .inl (fun _ => 0))), (q73, .inl (c73, 8, .inl (fun _ => 0))), (q81, .inl (c81, 8, .inl (fun _ => 0))), (q89, .inl (c89, 8, .inl (fun _ => 0))), (q97, .inl (c97, 8, .inl (fun _ => 0))), (q105, .inl (c105, 8, .inl (fun _ => 0))), (q113, .inl (c113, 8, .inl (fun _ => 0))), (q120, .inl (c120, 4, .inl (upd (upd (upd (fun _ => 0) 0 (-1)) 1 (-1)) 2 (-1)))), (q127, .inl (c127, 2, .inl (fun _ => 0))), (q134, .inl (c134, 2, .inl (fun _ => 0))), (q142, .inl (c142, 8, .inl (fun _ => 0))), (q150, .inl (c150, 8, .inl (fun _ => 0))), (q158, .inl (c158, 8, .inl (fun _ => 0)))] H := hP
        have hD : va_D A [(h0, .inr (3, [.int 20, .int 1, .int 0, .int 0, .ref q17, .ref q25, .ref q33, .ref q41, .ref q49, .ref q57, .ref q65, .ref q73, .ref q81, .ref q89, .ref q97, .ref q105, .ref q113, .ref q120, .ref q127, .ref q134, .ref q142, .ref q150, .ref q158])), (q17, .inl (c17, 8, .inl (fun _ => 0))), (q25, .inl (c25, 8, .inl (fun _ => 0))), (q33, .inl (c33, 8, .inl (fun _ => 0))), (q41, .inl (c41, 8, .inl (fun _ => 0))), (q49, .inl (c49, 8, .inl (fun _ => 0))), (q57, .inl (c57, 8, .inl (fun _ => 0))), (q65, .inl (c65, 8, .inl (fun _ => 0))), (q73, .inl (c73, 8, .inl (fun _ => 0))), (q81, .inl (c81, 8, .inl (fun _ => 0))), (q89, .inl (c89, 8, .inl (fun _ => 0))), (q97, .inl (c97, 8, .inl (fun _ => 0))), (q105, .inl (c105, 8, .inl (fun _ => 0))), (q113, .inl (c113, 8, .inl (fun _ => 0))), (q120, .inl (c120, 4, .inl (upd (upd (upd (fun _ => 0) 0 (-1)) 1 (-1)) 2 (-1)))), (q127, .inl (c127, 2, .inl (fun _ => 0))), (q134, .inl (c134, 2, .inl (fun _ => 0))), (q142, .inl (c142, 8, .inl (fun _ => 0))), (q150, .inl (c150, 8, .inl (fun _ => 0))), (q158, .inl (c158, 8, .inl (fun _ => 0)))] := hD
        refine lv_iinc (v := 3) (lv' := [(3, .int 3), (0, .ref h0), (1, .int slice), (2, .int ceiling)]) hx hb dM_init_227 hl (k := 0) rfl (by decide) (by decide) rfl (fun ls hl => ?_)
        refine lv_goto (tgt := 215) hx hb dM_init_230 (by decide) ?_
        refine lv_iload_n hx hb dM_init_215 rfl (lv_at hl 0 rfl) ?_
        refine lv_iconst (v := 4) hx hb dM_init_216 (by decide) ?_
        refine lv_icmp_ge (tgt := 233) hx hb dM_init_217 (by decide) (fun c9 => absurd c9 (by decide)) (fun _ => ?_)
        refine lv_aload_n hx hb dM_init_220 rfl (lv_at hl 1 rfl) ?_
        refine va_get (D := (dC, dI)) (ci := 3) (v := .ref q120) (C := R_M) (T := T_M) (N := 23) hx hb hts uw_M hown hK hP 0 rfl rfl 17 (by decide) (hts _ (List.mem_cons_of_mem _ wd_348)) (fun _ h9 => h9) rfl dM_init_221 ?_
        refine lv_iload_n hx hb dM_init_224 rfl (lv_at hl 0 rfl) ?_
        refine lv_iconst (v := (-1)) hx hb dM_init_225 (by decide) ?_
        refine va_iast hx hb hK hP hD hS 14 13 rfl rfl (kk_inl (by decide)) dM_init_226 (fun H locs hP hD hS => ?_)
        rw [kk_c3] at hP hD
        have hP : va_P (dC, dI) vwCl [(h0, .inr (3, [.int 20, .int 1, .int 0, .int 0, .ref q17, .ref q25, .ref q33, .ref q41, .ref q49, .ref q57, .ref q65, .ref q73, .ref q81, .ref q89, .ref q97, .ref q105, .ref q113, .ref q120, .ref q127, .ref q134, .ref q142, .ref q150, .ref q158])), (q17, .inl (c17, 8, .inl (fun _ => 0))), (q25, .inl (c25, 8, .inl (fun _ => 0))), (q33, .inl (c33, 8, .inl (fun _ => 0))), (q41, .inl (c41, 8, .inl (fun _ => 0))), (q49, .inl (c49, 8, .inl (fun _ => 0))), (q57, .inl (c57, 8, .inl (fun _ => 0))), (q65, .inl (c65, 8, .inl (fun _ => 0))), (q73, .inl (c73, 8, .inl (fun _ => 0))), (q81, .inl (c81, 8, .inl (fun _ => 0))), (q89, .inl (c89, 8, .inl (fun _ => 0))), (q97, .inl (c97, 8, .inl (fun _ => 0))), (q105, .inl (c105, 8, .inl (fun _ => 0))), (q113, .inl (c113, 8, .inl (fun _ => 0))), (q120, .inl (c120, 4, .inl (upd (upd (upd (upd (fun _ => 0) 0 (-1)) 1 (-1)) 2 (-1)) 3 (-1)))), (q127, .inl (c127, 2, .inl (fun _ => 0))), (q134, .inl (c134, 2, .inl (fun _ => 0))), (q142, .inl (c142, 8, .inl (fun _ => 0))), (q150, .inl (c150, 8, .inl (fun _ => 0))), (q158, .inl (c158, 8, .inl (fun _ => 0)))] H := hP
        have hD : va_D A [(h0, .inr (3, [.int 20, .int 1, .int 0, .int 0, .ref q17, .ref q25, .ref q33, .ref q41, .ref q49, .ref q57, .ref q65, .ref q73, .ref q81, .ref q89, .ref q97, .ref q105, .ref q113, .ref q120, .ref q127, .ref q134, .ref q142, .ref q150, .ref q158])), (q17, .inl (c17, 8, .inl (fun _ => 0))), (q25, .inl (c25, 8, .inl (fun _ => 0))), (q33, .inl (c33, 8, .inl (fun _ => 0))), (q41, .inl (c41, 8, .inl (fun _ => 0))), (q49, .inl (c49, 8, .inl (fun _ => 0))), (q57, .inl (c57, 8, .inl (fun _ => 0))), (q65, .inl (c65, 8, .inl (fun _ => 0))), (q73, .inl (c73, 8, .inl (fun _ => 0))), (q81, .inl (c81, 8, .inl (fun _ => 0))), (q89, .inl (c89, 8, .inl (fun _ => 0))), (q97, .inl (c97, 8, .inl (fun _ => 0))), (q105, .inl (c105, 8, .inl (fun _ => 0))), (q113, .inl (c113, 8, .inl (fun _ => 0))), (q120, .inl (c120, 4, .inl (upd (upd (upd (upd (fun _ => 0) 0 (-1)) 1 (-1)) 2 (-1)) 3 (-1)))), (q127, .inl (c127, 2, .inl (fun _ => 0))), (q134, .inl (c134, 2, .inl (fun _ => 0))), (q142, .inl (c142, 8, .inl (fun _ => 0))), (q150, .inl (c150, 8, .inl (fun _ => 0))), (q158, .inl (c158, 8, .inl (fun _ => 0)))] := hD
        refine lv_iinc (v := 4) (lv' := [(3, .int 4), (0, .ref h0), (1, .int slice), (2, .int ceiling)]) hx hb dM_init_227 hl (k := 0) rfl (by decide) (by decide) rfl (fun ls hl => ?_)
        refine lv_goto (tgt := 215) hx hb dM_init_230 (by decide) ?_
        refine lv_iload_n hx hb dM_init_215 rfl (lv_at hl 0 rfl) ?_
        refine lv_iconst (v := 4) hx hb dM_init_216 (by decide) ?_
        refine lv_icmp_ge (tgt := 233) hx hb dM_init_217 (by decide) (fun _ => ?_) (fun c9 => absurd (by decide) c9)
        subst hf
        have hP9 := hP.sub (ws' := km_w (fun k => match k with | 0 => h0 | 1 => q17 | 2 => q25 | 3 => q33 | 4 => q41 | 5 => q49 | 6 => q57 | 7 => q65 | 8 => q73 | 9 => q81 | 10 => q89 | 11 => q97 | 12 => q105 | 13 => q113 | 14 => q120 | 15 => q127 | 16 => q134 | 17 => q142 | 18 => q150 | _ => q158) (fun k => match k with | 1 => c17 | 2 => c25 | 3 => c33 | 4 => c41 | 5 => c49 | 6 => c57 | 7 => c65 | 8 => c73 | 9 => c81 | 10 => c89 | 11 => c97 | 12 => c105 | 13 => c113 | 14 => c120 | 15 => c127 | 16 => c134 | 17 => c142 | 18 => c150 | _ => c158) (km_0 20 1)) [0, 1, 2, 3, 4, 5, 6, 7, 8, 9, 10, 11, 12, 13, 14, 15, 16, 17, 18, 19] rfl
        have hD9 := hD.sub (ws' := km_w (fun k => match k with | 0 => h0 | 1 => q17 | 2 => q25 | 3 => q33 | 4 => q41 | 5 => q49 | 6 => q57 | 7 => q65 | 8 => q73 | 9 => q81 | 10 => q89 | 11 => q97 | 12 => q105 | 13 => q113 | 14 => q120 | 15 => q127 | 16 => q134 | 17 => q142 | 18 => q150 | _ => q158) (fun k => match k with | 1 => c17 | 2 => c25 | 3 => c33 | 4 => c41 | 5 => c49 | 6 => c57 | 7 => c65 | 8 => c73 | 9 => c81 | 10 => c89 | 11 => c97 | 12 => c105 | 13 => c113 | 14 => c120 | 15 => c127 | 16 => c134 | 17 => c142 | 18 => c150 | _ => c158) (km_0 20 1)) [0, 1, 2, 3, 4, 5, 6, 7, 8, 9, 10, 11, 12, 13, 14, 15, 16, 17, 18, 19] (by decide) rfl
        have hK9 := hK.sub (tys' := km_t (fun k => match k with | 1 => c17 | 2 => c25 | 3 => c33 | 4 => c41 | 5 => c49 | 6 => c57 | 7 => c65 | 8 => c73 | 9 => c81 | 10 => c89 | 11 => c97 | 12 => c105 | 13 => c113 | 14 => c120 | 15 => c127 | 16 => c134 | 17 => c142 | 18 => c150 | _ => c158)) [0, 1, 2, 3, 4, 5, 6, 7, 8, 9, 10, 11, 12, 13, 14, 15, 16, 17, 18] rfl
        exact W.vret hx hb hr (fun t ht hW => ⟨⟨(fun k => match k with | 0 => h0 | 1 => q17 | 2 => q25 | 3 => q33 | 4 => q41 | 5 => q49 | 6 => q57 | 7 => q65 | 8 => q73 | 9 => q81 | 10 => q89 | 11 => q97 | 12 => q105 | 13 => q113 | 14 => q120 | 15 => q127 | 16 => q134 | 17 => q142 | 18 => q150 | _ => q158, fun k => match k with | 1 => c17 | 2 => c25 | 3 => c33 | 4 => c41 | 5 => c49 | 6 => c57 | 7 => c65 | 8 => c73 | 9 => c81 | 10 => c89 | 11 => c97 | 12 => c105 | 13 => c113 | 14 => c120 | 15 => c127 | 16 => c134 | 17 => c142 | 18 => c150 | _ => c158), rfl, rfl, by rw [ht]; exact hP9, va_K.moved hW.alike hK9, hD9⟩, hS.F ht⟩) hS.2.2 dM_init_233 hlocks
  · rw [if_neg c_166] at hf
    refine lv_iconst (v := 1) hx hb dM_init_169 (by decide) ?_
    refine lv_goto (tgt := 185) hx hb dM_init_170 (by decide) ?_
    refine va_putF (D := (dC, dI)) (ci := 3) (v := .int 1) (ty := .int) (C := R_M) (T := T_M) (N := 23) hx hb hts uw_M ty_M ty_M_ok nm_M hown hK hP hD hS 0 rfl rfl 0 (by decide) (hts _ (List.mem_cons_of_mem _ wd_331)) (fun _ h9 => h9) rfl hin rfl (by decide +kernel) rfl rfl (Nat.le_of_ble_eq_true rfl) dM_init_185 (fun H locs hP hD hS => ?_)
    have hP : va_P (dC, dI) vwCl [(h0, .inr (3, [.int 1, .int 0, .int 0, .int 0, .ref q17, .ref q25, .ref q33, .ref q41, .ref q49, .ref q57, .ref q65, .ref q73, .ref q81, .ref q89, .ref q97, .ref q105, .ref q113, .ref q120, .ref q127, .ref q134, .ref q142, .ref q150, .ref q158])), (q17, .inl (c17, 8, .inl (fun _ => 0))), (q25, .inl (c25, 8, .inl (fun _ => 0))), (q33, .inl (c33, 8, .inl (fun _ => 0))), (q41, .inl (c41, 8, .inl (fun _ => 0))), (q49, .inl (c49, 8, .inl (fun _ => 0))), (q57, .inl (c57, 8, .inl (fun _ => 0))), (q65, .inl (c65, 8, .inl (fun _ => 0))), (q73, .inl (c73, 8, .inl (fun _ => 0))), (q81, .inl (c81, 8, .inl (fun _ => 0))), (q89, .inl (c89, 8, .inl (fun _ => 0))), (q97, .inl (c97, 8, .inl (fun _ => 0))), (q105, .inl (c105, 8, .inl (fun _ => 0))), (q113, .inl (c113, 8, .inl (fun _ => 0))), (q120, .inl (c120, 4, .inl (fun _ => 0))), (q127, .inl (c127, 2, .inl (fun _ => 0))), (q134, .inl (c134, 2, .inl (fun _ => 0))), (q142, .inl (c142, 8, .inl (fun _ => 0))), (q150, .inl (c150, 8, .inl (fun _ => 0))), (q158, .inl (c158, 8, .inl (fun _ => 0)))] H := hP
    have hD : va_D A [(h0, .inr (3, [.int 1, .int 0, .int 0, .int 0, .ref q17, .ref q25, .ref q33, .ref q41, .ref q49, .ref q57, .ref q65, .ref q73, .ref q81, .ref q89, .ref q97, .ref q105, .ref q113, .ref q120, .ref q127, .ref q134, .ref q142, .ref q150, .ref q158])), (q17, .inl (c17, 8, .inl (fun _ => 0))), (q25, .inl (c25, 8, .inl (fun _ => 0))), (q33, .inl (c33, 8, .inl (fun _ => 0))), (q41, .inl (c41, 8, .inl (fun _ => 0))), (q49, .inl (c49, 8, .inl (fun _ => 0))), (q57, .inl (c57, 8, .inl (fun _ => 0))), (q65, .inl (c65, 8, .inl (fun _ => 0))), (q73, .inl (c73, 8, .inl (fun _ => 0))), (q81, .inl (c81, 8, .inl (fun _ => 0))), (q89, .inl (c89, 8, .inl (fun _ => 0))), (q97, .inl (c97, 8, .inl (fun _ => 0))), (q105, .inl (c105, 8, .inl (fun _ => 0))), (q113, .inl (c113, 8, .inl (fun _ => 0))), (q120, .inl (c120, 4, .inl (fun _ => 0))), (q127, .inl (c127, 2, .inl (fun _ => 0))), (q134, .inl (c134, 2, .inl (fun _ => 0))), (q142, .inl (c142, 8, .inl (fun _ => 0))), (q150, .inl (c150, 8, .inl (fun _ => 0))), (q158, .inl (c158, 8, .inl (fun _ => 0)))] := hD
    refine lv_aload_n hx hb dM_init_188 rfl (lv_at hl 0 rfl) ?_
    refine lv_iload_n hx hb dM_init_189 rfl (lv_at hl 2 rfl) ?_
    refine lv_iconst (v := 1) hx hb dM_init_190 (by decide) ?_
    refine lv_icmp_ge (tgt := 198) hx hb dM_init_191 (by decide) (fun c_191 => ?_) (fun c_191 => ?_)
    · rw [if_pos c_191] at hf
      refine lv_iload_n hx hb dM_init_198 rfl (lv_at hl 2 rfl) ?_
      refine lv_bipush (v := 31) hx hb dM_init_199 (by decide) ?_
      refine lv_icmp_le (tgt := 209) hx hb dM_init_201 (by decide) (fun c_201 => ?_) (fun c_201 => ?_)
      · rw [if_pos c_201] at hf
        refine lv_iload_n hx hb dM_init_209 rfl (lv_at hl 2 rfl) ?_
        refine va_putF (D := (dC, dI)) (ci := 3) (v := .int ceiling) (ty := .int) (C := R_M) (T := T_M) (N := 23) hx hb hts uw_M ty_M ty_M_ok nm_M hown hK hP hD hS 0 rfl rfl 1 (by decide) (hts _ (List.mem_cons_of_mem _ wd_332)) (fun _ h9 => h9) rfl hin rfl (by decide +kernel) rfl rfl (Nat.le_of_ble_eq_true rfl) dM_init_210 (fun H locs hP hD hS => ?_)
        have hP : va_P (dC, dI) vwCl [(h0, .inr (3, [.int 1, .int ceiling, .int 0, .int 0, .ref q17, .ref q25, .ref q33, .ref q41, .ref q49, .ref q57, .ref q65, .ref q73, .ref q81, .ref q89, .ref q97, .ref q105, .ref q113, .ref q120, .ref q127, .ref q134, .ref q142, .ref q150, .ref q158])), (q17, .inl (c17, 8, .inl (fun _ => 0))), (q25, .inl (c25, 8, .inl (fun _ => 0))), (q33, .inl (c33, 8, .inl (fun _ => 0))), (q41, .inl (c41, 8, .inl (fun _ => 0))), (q49, .inl (c49, 8, .inl (fun _ => 0))), (q57, .inl (c57, 8, .inl (fun _ => 0))), (q65, .inl (c65, 8, .inl (fun _ => 0))), (q73, .inl (c73, 8, .inl (fun _ => 0))), (q81, .inl (c81, 8, .inl (fun _ => 0))), (q89, .inl (c89, 8, .inl (fun _ => 0))), (q97, .inl (c97, 8, .inl (fun _ => 0))), (q105, .inl (c105, 8, .inl (fun _ => 0))), (q113, .inl (c113, 8, .inl (fun _ => 0))), (q120, .inl (c120, 4, .inl (fun _ => 0))), (q127, .inl (c127, 2, .inl (fun _ => 0))), (q134, .inl (c134, 2, .inl (fun _ => 0))), (q142, .inl (c142, 8, .inl (fun _ => 0))), (q150, .inl (c150, 8, .inl (fun _ => 0))), (q158, .inl (c158, 8, .inl (fun _ => 0)))] H := hP
        have hD : va_D A [(h0, .inr (3, [.int 1, .int ceiling, .int 0, .int 0, .ref q17, .ref q25, .ref q33, .ref q41, .ref q49, .ref q57, .ref q65, .ref q73, .ref q81, .ref q89, .ref q97, .ref q105, .ref q113, .ref q120, .ref q127, .ref q134, .ref q142, .ref q150, .ref q158])), (q17, .inl (c17, 8, .inl (fun _ => 0))), (q25, .inl (c25, 8, .inl (fun _ => 0))), (q33, .inl (c33, 8, .inl (fun _ => 0))), (q41, .inl (c41, 8, .inl (fun _ => 0))), (q49, .inl (c49, 8, .inl (fun _ => 0))), (q57, .inl (c57, 8, .inl (fun _ => 0))), (q65, .inl (c65, 8, .inl (fun _ => 0))), (q73, .inl (c73, 8, .inl (fun _ => 0))), (q81, .inl (c81, 8, .inl (fun _ => 0))), (q89, .inl (c89, 8, .inl (fun _ => 0))), (q97, .inl (c97, 8, .inl (fun _ => 0))), (q105, .inl (c105, 8, .inl (fun _ => 0))), (q113, .inl (c113, 8, .inl (fun _ => 0))), (q120, .inl (c120, 4, .inl (fun _ => 0))), (q127, .inl (c127, 2, .inl (fun _ => 0))), (q134, .inl (c134, 2, .inl (fun _ => 0))), (q142, .inl (c142, 8, .inl (fun _ => 0))), (q150, .inl (c150, 8, .inl (fun _ => 0))), (q158, .inl (c158, 8, .inl (fun _ => 0)))] := hD
        refine lv_iconst (v := 0) hx hb dM_init_213 (by decide) ?_
        refine lv_istore_n (lv' := [(3, .int 0), (0, .ref h0), (1, .int slice), (2, .int ceiling)]) hx hb dM_init_214 rfl hl (by decide) rfl (fun ls hl => ?_)
        refine lv_iload_n hx hb dM_init_215 rfl (lv_at hl 0 rfl) ?_
        refine lv_iconst (v := 4) hx hb dM_init_216 (by decide) ?_
        refine lv_icmp_ge (tgt := 233) hx hb dM_init_217 (by decide) (fun c9 => absurd c9 (by decide)) (fun _ => ?_)
        refine lv_aload_n hx hb dM_init_220 rfl (lv_at hl 1 rfl) ?_
        refine va_get (D := (dC, dI)) (ci := 3) (v := .ref q120) (C := R_M) (T := T_M) (N := 23) hx hb hts uw_M hown hK hP 0 rfl rfl 17 (by decide) (hts _ (List.mem_cons_of_mem _ wd_348)) (fun _ h9 => h9) rfl dM_init_221 ?_
        refine lv_iload_n hx hb dM_init_224 rfl (lv_at hl 0 rfl) ?_
        refine lv_iconst (v := (-1)) hx hb dM_init_225 (by decide) ?_
        refine va_iast hx hb hK hP hD hS 14 13 rfl rfl (kk_inl (by decide)) dM_init_226 (fun H locs hP hD hS => ?_)
        rw [kk_c0] at hP hD
        have hP : va_P (dC, dI) vwCl [(h0, .inr (3, [.int 1, .int ceiling, .int 0, .int 0, .ref q17, .ref q25, .ref q33, .ref q41, .ref q49, .ref q57, .ref q65, .ref q73, .ref q81, .ref q89, .ref q97, .ref q105, .ref q113, .ref q120, .ref q127, .ref q134, .ref q142, .ref q150, .ref q158])), (q17, .inl (c17, 8, .inl (fun _ => 0))), (q25, .inl (c25, 8, .inl (fun _ => 0))), (q33, .inl (c33, 8, .inl (fun _ => 0))), (q41, .inl (c41, 8, .inl (fun _ => 0))), (q49, .inl (c49, 8, .inl (fun _ => 0))), (q57, .inl (c57, 8, .inl (fun _ => 0))), (q65, .inl (c65, 8, .inl (fun _ => 0))), (q73, .inl (c73, 8, .inl (fun _ => 0))), (q81, .inl (c81, 8, .inl (fun _ => 0))), (q89, .inl (c89, 8, .inl (fun _ => 0))), (q97, .inl (c97, 8, .inl (fun _ => 0))), (q105, .inl (c105, 8, .inl (fun _ => 0))), (q113, .inl (c113, 8, .inl (fun _ => 0))), (q120, .inl (c120, 4, .inl (upd (fun _ => 0) 0 (-1)))), (q127, .inl (c127, 2, .inl (fun _ => 0))), (q134, .inl (c134, 2, .inl (fun _ => 0))), (q142, .inl (c142, 8, .inl (fun _ => 0))), (q150, .inl (c150, 8, .inl (fun _ => 0))), (q158, .inl (c158, 8, .inl (fun _ => 0)))] H := hP
        have hD : va_D A [(h0, .inr (3, [.int 1, .int ceiling, .int 0, .int 0, .ref q17, .ref q25, .ref q33, .ref q41, .ref q49, .ref q57, .ref q65, .ref q73, .ref q81, .ref q89, .ref q97, .ref q105, .ref q113, .ref q120, .ref q127, .ref q134, .ref q142, .ref q150, .ref q158])), (q17, .inl (c17, 8, .inl (fun _ => 0))), (q25, .inl (c25, 8, .inl (fun _ => 0))), (q33, .inl (c33, 8, .inl (fun _ => 0))), (q41, .inl (c41, 8, .inl (fun _ => 0))), (q49, .inl (c49, 8, .inl (fun _ => 0))), (q57, .inl (c57, 8, .inl (fun _ => 0))), (q65, .inl (c65, 8, .inl (fun _ => 0))), (q73, .inl (c73, 8, .inl (fun _ => 0))), (q81, .inl (c81, 8, .inl (fun _ => 0))), (q89, .inl (c89, 8, .inl (fun _ => 0))), (q97, .inl (c97, 8, .inl (fun _ => 0))), (q105, .inl (c105, 8, .inl (fun _ => 0))), (q113, .inl (c113, 8, .inl (fun _ => 0))), (q120, .inl (c120, 4, .inl (upd (fun _ => 0) 0 (-1)))), (q127, .inl (c127, 2, .inl (fun _ => 0))), (q134, .inl (c134, 2, .inl (fun _ => 0))), (q142, .inl (c142, 8, .inl (fun _ => 0))), (q150, .inl (c150, 8, .inl (fun _ => 0))), (q158, .inl (c158, 8, .inl (fun _ => 0)))] := hD
        refine lv_iinc (v := 1) (lv' := [(3, .int 1), (0, .ref h0), (1, .int slice), (2, .int ceiling)]) hx hb dM_init_227 hl (k := 0) rfl (by decide) (by decide) rfl (fun ls hl => ?_)
        refine lv_goto (tgt := 215) hx hb dM_init_230 (by decide) ?_
        refine lv_iload_n hx hb dM_init_215 rfl (lv_at hl 0 rfl) ?_
        refine lv_iconst (v := 4) hx hb dM_init_216 (by decide) ?_
        refine lv_icmp_ge (tgt := 233) hx hb dM_init_217 (by decide) (fun c9 => absurd c9 (by decide)) (fun _ => ?_)
        refine lv_aload_n hx hb dM_init_220 rfl (lv_at hl 1 rfl) ?_
        refine va_get (D := (dC, dI)) (ci := 3) (v := .ref q120) (C := R_M) (T := T_M) (N := 23) hx hb hts uw_M hown hK hP 0 rfl rfl 17 (by decide) (hts _ (List.mem_cons_of_mem _ wd_348)) (fun _ h9 => h9) rfl dM_init_221 ?_
        refine lv_iload_n hx hb dM_init_224 rfl (lv_at hl 0 rfl) ?_
        refine lv_iconst (v := (-1)) hx hb dM_init_225 (by decide) ?_
        refine va_iast hx hb hK hP hD hS 14 13 rfl rfl (kk_inl (by decide)) dM_init_226 (fun H locs hP hD hS => ?_)
        rw [kk_c1] at hP hD
        have hP : va_P (dC, dI) vwCl [(h0, .inr (3, [.int 1, .int ceiling, .int 0, .int 0, .ref q17, .ref q25, .ref q33, .ref q41, .ref q49, .ref q57, .ref q65, .ref q73, .ref q81, .ref q89, .ref q97, .ref q105, .ref q113, .ref q120, .ref q127, .ref q134, .ref q142, .ref q150, .ref q158])), (q17, .inl (c17, 8, .inl (fun _ => 0))), (q25, .inl (c25, 8, .inl (fun _ => 0))), (q33, .inl (c33, 8, .inl (fun _ => 0))), (q41, .inl (c41, 8, .inl (fun _ => 0))), (q49, .inl (c49, 8, .inl (fun _ => 0))), (q57, .inl (c57, 8, .inl (fun _ => 0))), (q65, .inl (c65, 8, .inl (fun _ => 0))), (q73, .inl (c73, 8, .inl (fun _ => 0))), (q81, .inl (c81, 8, .inl (fun _ => 0))), (q89, .inl (c89, 8, .inl (fun _ => 0))), (q97, .inl (c97, 8, .inl (fun _ => 0))), (q105, .inl (c105, 8, .inl (fun _ => 0))), (q113, .inl (c113, 8, .inl (fun _ => 0))), (q120, .inl (c120, 4, .inl (upd (upd (fun _ => 0) 0 (-1)) 1 (-1)))), (q127, .inl (c127, 2, .inl (fun _ => 0))), (q134, .inl (c134, 2, .inl (fun _ => 0))), (q142, .inl (c142, 8, .inl (fun _ => 0))), (q150, .inl (c150, 8, .inl (fun _ => 0))), (q158, .inl (c158, 8, .inl (fun _ => 0)))] H := hP
        have hD : va_D A [(h0, .inr (3, [.int 1, .int ceiling, .int 0, .int 0, .ref q17, .ref q25, .ref q33, .ref q41, .ref q49, .ref q57, .ref q65, .ref q73, .ref q81, .ref q89, .ref q97, .ref q105, .ref q113, .ref q120, .ref q127, .ref q134, .ref q142, .ref q150, .ref q158])), (q17, .inl (c17, 8, .inl (fun _ => 0))), (q25, .inl (c25, 8, .inl (fun _ => 0))), (q33, .inl (c33, 8, .inl (fun _ => 0))), (q41, .inl (c41, 8, .inl (fun _ => 0))), (q49, .inl (c49, 8, .inl (fun _ => 0))), (q57, .inl (c57, 8, .inl (fun _ => 0))), (q65, .inl (c65, 8, .inl (fun _ => 0))), (q73, .inl (c73, 8, .inl (fun _ => 0))), (q81, .inl (c81, 8, .inl (fun _ => 0))), (q89, .inl (c89, 8, .inl (fun _ => 0))), (q97, .inl (c97, 8, .inl (fun _ => 0))), (q105, .inl (c105, 8, .inl (fun _ => 0))), (q113, .inl (c113, 8, .inl (fun _ => 0))), (q120, .inl (c120, 4, .inl (upd (upd (fun _ => 0) 0 (-1)) 1 (-1)))), (q127, .inl (c127, 2, .inl (fun _ => 0))), (q134, .inl (c134, 2, .inl (fun _ => 0))), (q142, .inl (c142, 8, .inl (fun _ => 0))), (q150, .inl (c150, 8, .inl (fun _ => 0))), (q158, .inl (c158, 8, .inl (fun _ => 0)))] := hD
        refine lv_iinc (v := 2) (lv' := [(3, .int 2), (0, .ref h0), (1, .int slice), (2, .int ceiling)]) hx hb dM_init_227 hl (k := 0) rfl (by decide) (by decide) rfl (fun ls hl => ?_)
        refine lv_goto (tgt := 215) hx hb dM_init_230 (by decide) ?_
        refine lv_iload_n hx hb dM_init_215 rfl (lv_at hl 0 rfl) ?_
        refine lv_iconst (v := 4) hx hb dM_init_216 (by decide) ?_
        refine lv_icmp_ge (tgt := 233) hx hb dM_init_217 (by decide) (fun c9 => absurd c9 (by decide)) (fun _ => ?_)
        refine lv_aload_n hx hb dM_init_220 rfl (lv_at hl 1 rfl) ?_
        refine va_get (D := (dC, dI)) (ci := 3) (v := .ref q120) (C := R_M) (T := T_M) (N := 23) hx hb hts uw_M hown hK hP 0 rfl rfl 17 (by decide) (hts _ (List.mem_cons_of_mem _ wd_348)) (fun _ h9 => h9) rfl dM_init_221 ?_
        refine lv_iload_n hx hb dM_init_224 rfl (lv_at hl 0 rfl) ?_
        refine lv_iconst (v := (-1)) hx hb dM_init_225 (by decide) ?_
        refine va_iast hx hb hK hP hD hS 14 13 rfl rfl (kk_inl (by decide)) dM_init_226 (fun H locs hP hD hS => ?_)
        rw [kk_c2] at hP hD
        have hP : va_P (dC, dI) vwCl [(h0, .inr (3, [.int 1, .int ceiling, .int 0, .int 0, .ref q17, .ref q25, .ref q33, .ref q41, .ref q49, .ref q57, .ref q65, .ref q73, .ref q81, .ref q89, .ref q97, .ref q105, .ref q113, .ref q120, .ref q127, .ref q134, .ref q142, .ref q150, .ref q158])), (q17, .inl (c17, 8, .inl (fun _ => 0))), (q25, .inl (c25, 8, .inl (fun _ => 0))), (q33, .inl (c33, 8, .inl (fun _ => 0))), (q41, .inl (c41, 8, .inl (fun _ => 0))), (q49, .inl (c49, 8, .inl (fun _ => 0))), (q57, .inl (c57, 8, .inl (fun _ => 0))), (q65, .inl (c65, 8, .inl (fun _ => 0))), (q73, .inl (c73, 8, .inl (fun _ => 0))), (q81, .inl (c81, 8, .inl (fun _ => 0))), (q89, .inl (c89, 8, .inl (fun _ => 0))), (q97, .inl (c97, 8, .inl (fun _ => 0))), (q105, .inl (c105, 8, .inl (fun _ => 0))), (q113, .inl (c113, 8, .inl (fun _ => 0))), (q120, .inl (c120, 4, .inl (upd (upd (upd (fun _ => 0) 0 (-1)) 1 (-1)) 2 (-1)))), (q127, .inl (c127, 2, .inl (fun _ => 0))), (q134, .inl (c134, 2, .inl (fun _ => 0))), (q142, .inl (c142, 8, .inl (fun _ => 0))), (q150, .inl (c150, 8, .inl (fun _ => 0))), (q158, .inl (c158, 8, .inl (fun _ => 0)))] H := hP
        have hD : va_D A [(h0, .inr (3, [.int 1, .int ceiling, .int 0, .int 0, .ref q17, .ref q25, .ref q33, .ref q41, .ref q49, .ref q57, .ref q65, .ref q73, .ref q81, .ref q89, .ref q97, .ref q105, .ref q113, .ref q120, .ref q127, .ref q134, .ref q142, .ref q150, .ref q158])), (q17, .inl (c17, 8, .inl (fun _ => 0))), (q25, .inl (c25, 8, .inl (fun _ => 0))), (q33, .inl (c33, 8, .inl (fun _ => 0))), (q41, .inl (c41, 8, .inl (fun _ => 0))), (q49, .inl (c49, 8, .inl (fun _ => 0))), (q57, .inl (c57, 8, .inl (fun _ => 0))), (q65, .inl (c65, 8, .inl (fun _ => 0))), (q73, .inl (c73, 8, .inl (fun _ => 0))), (q81, .inl (c81, 8, .inl (fun _ => 0))), (q89, .inl (c89, 8, .inl (fun _ => 0))), (q97, .inl (c97, 8, .inl (fun _ => 0))), (q105, .inl (c105, 8, .inl (fun _ => 0))), (q113, .inl (c113, 8, .inl (fun _ => 0))), (q120, .inl (c120, 4, .inl (upd (upd (upd (fun _ => 0) 0 (-1)) 1 (-1)) 2 (-1)))), (q127, .inl (c127, 2, .inl (fun _ => 0))), (q134, .inl (c134, 2, .inl (fun _ => 0))), (q142, .inl (c142, 8, .inl (fun _ => 0))), (q150, .inl (c150, 8, .inl (fun _ => 0))), (q158, .inl (c158, 8, .inl (fun _ => 0)))] := hD
        refine lv_iinc (v := 3) (lv' := [(3, .int 3), (0, .ref h0), (1, .int slice), (2, .int ceiling)]) hx hb dM_init_227 hl (k := 0) rfl (by decide) (by decide) rfl (fun ls hl => ?_)
        refine lv_goto (tgt := 215) hx hb dM_init_230 (by decide) ?_
        refine lv_iload_n hx hb dM_init_215 rfl (lv_at hl 0 rfl) ?_
        refine lv_iconst (v := 4) hx hb dM_init_216 (by decide) ?_
        refine lv_icmp_ge (tgt := 233) hx hb dM_init_217 (by decide) (fun c9 => absurd c9 (by decide)) (fun _ => ?_)
        refine lv_aload_n hx hb dM_init_220 rfl (lv_at hl 1 rfl) ?_
        refine va_get (D := (dC, dI)) (ci := 3) (v := .ref q120) (C := R_M) (T := T_M) (N := 23) hx hb hts uw_M hown hK hP 0 rfl rfl 17 (by decide) (hts _ (List.mem_cons_of_mem _ wd_348)) (fun _ h9 => h9) rfl dM_init_221 ?_
        refine lv_iload_n hx hb dM_init_224 rfl (lv_at hl 0 rfl) ?_
        refine lv_iconst (v := (-1)) hx hb dM_init_225 (by decide) ?_
        refine va_iast hx hb hK hP hD hS 14 13 rfl rfl (kk_inl (by decide)) dM_init_226 (fun H locs hP hD hS => ?_)
        rw [kk_c3] at hP hD
        have hP : va_P (dC, dI) vwCl [(h0, .inr (3, [.int 1, .int ceiling, .int 0, .int 0, .ref q17, .ref q25, .ref q33, .ref q41, .ref q49, .ref q57, .ref q65, .ref q73, .ref q81, .ref q89, .ref q97, .ref q105, .ref q113, .ref q120, .ref q127, .ref q134, .ref q142, .ref q150, .ref q158])), (q17, .inl (c17, 8, .inl (fun _ => 0))), (q25, .inl (c25, 8, .inl (fun _ => 0))), (q33, .inl (c33, 8, .inl (fun _ => 0))), (q41, .inl (c41, 8, .inl (fun _ => 0))), (q49, .inl (c49, 8, .inl (fun _ => 0))), (q57, .inl (c57, 8, .inl (fun _ => 0))), (q65, .inl (c65, 8, .inl (fun _ => 0))), (q73, .inl (c73, 8, .inl (fun _ => 0))), (q81, .inl (c81, 8, .inl (fun _ => 0))), (q89, .inl (c89, 8, .inl (fun _ => 0))), (q97, .inl (c97, 8, .inl (fun _ => 0))), (q105, .inl (c105, 8, .inl (fun _ => 0))), (q113, .inl (c113, 8, .inl (fun _ => 0))), (q120, .inl (c120, 4, .inl (upd (upd (upd (upd (fun _ => 0) 0 (-1)) 1 (-1)) 2 (-1)) 3 (-1)))), (q127, .inl (c127, 2, .inl (fun _ => 0))), (q134, .inl (c134, 2, .inl (fun _ => 0))), (q142, .inl (c142, 8, .inl (fun _ => 0))), (q150, .inl (c150, 8, .inl (fun _ => 0))), (q158, .inl (c158, 8, .inl (fun _ => 0)))] H := hP
        have hD : va_D A [(h0, .inr (3, [.int 1, .int ceiling, .int 0, .int 0, .ref q17, .ref q25, .ref q33, .ref q41, .ref q49, .ref q57, .ref q65, .ref q73, .ref q81, .ref q89, .ref q97, .ref q105, .ref q113, .ref q120, .ref q127, .ref q134, .ref q142, .ref q150, .ref q158])), (q17, .inl (c17, 8, .inl (fun _ => 0))), (q25, .inl (c25, 8, .inl (fun _ => 0))), (q33, .inl (c33, 8, .inl (fun _ => 0))), (q41, .inl (c41, 8, .inl (fun _ => 0))), (q49, .inl (c49, 8, .inl (fun _ => 0))), (q57, .inl (c57, 8, .inl (fun _ => 0))), (q65, .inl (c65, 8, .inl (fun _ => 0))), (q73, .inl (c73, 8, .inl (fun _ => 0))), (q81, .inl (c81, 8, .inl (fun _ => 0))), (q89, .inl (c89, 8, .inl (fun _ => 0))), (q97, .inl (c97, 8, .inl (fun _ => 0))), (q105, .inl (c105, 8, .inl (fun _ => 0))), (q113, .inl (c113, 8, .inl (fun _ => 0))), (q120, .inl (c120, 4, .inl (upd (upd (upd (upd (fun _ => 0) 0 (-1)) 1 (-1)) 2 (-1)) 3 (-1)))), (q127, .inl (c127, 2, .inl (fun _ => 0))), (q134, .inl (c134, 2, .inl (fun _ => 0))), (q142, .inl (c142, 8, .inl (fun _ => 0))), (q150, .inl (c150, 8, .inl (fun _ => 0))), (q158, .inl (c158, 8, .inl (fun _ => 0)))] := hD
        refine lv_iinc (v := 4) (lv' := [(3, .int 4), (0, .ref h0), (1, .int slice), (2, .int ceiling)]) hx hb dM_init_227 hl (k := 0) rfl (by decide) (by decide) rfl (fun ls hl => ?_)
        refine lv_goto (tgt := 215) hx hb dM_init_230 (by decide) ?_
        refine lv_iload_n hx hb dM_init_215 rfl (lv_at hl 0 rfl) ?_
        refine lv_iconst (v := 4) hx hb dM_init_216 (by decide) ?_
        refine lv_icmp_ge (tgt := 233) hx hb dM_init_217 (by decide) (fun _ => ?_) (fun c9 => absurd (by decide) c9)
        subst hf
        have hP9 := hP.sub (ws' := km_w (fun k => match k with | 0 => h0 | 1 => q17 | 2 => q25 | 3 => q33 | 4 => q41 | 5 => q49 | 6 => q57 | 7 => q65 | 8 => q73 | 9 => q81 | 10 => q89 | 11 => q97 | 12 => q105 | 13 => q113 | 14 => q120 | 15 => q127 | 16 => q134 | 17 => q142 | 18 => q150 | _ => q158) (fun k => match k with | 1 => c17 | 2 => c25 | 3 => c33 | 4 => c41 | 5 => c49 | 6 => c57 | 7 => c65 | 8 => c73 | 9 => c81 | 10 => c89 | 11 => c97 | 12 => c105 | 13 => c113 | 14 => c120 | 15 => c127 | 16 => c134 | 17 => c142 | 18 => c150 | _ => c158) (km_0 1 ceiling)) [0, 1, 2, 3, 4, 5, 6, 7, 8, 9, 10, 11, 12, 13, 14, 15, 16, 17, 18, 19] rfl
        have hD9 := hD.sub (ws' := km_w (fun k => match k with | 0 => h0 | 1 => q17 | 2 => q25 | 3 => q33 | 4 => q41 | 5 => q49 | 6 => q57 | 7 => q65 | 8 => q73 | 9 => q81 | 10 => q89 | 11 => q97 | 12 => q105 | 13 => q113 | 14 => q120 | 15 => q127 | 16 => q134 | 17 => q142 | 18 => q150 | _ => q158) (fun k => match k with | 1 => c17 | 2 => c25 | 3 => c33 | 4 => c41 | 5 => c49 | 6 => c57 | 7 => c65 | 8 => c73 | 9 => c81 | 10 => c89 | 11 => c97 | 12 => c105 | 13 => c113 | 14 => c120 | 15 => c127 | 16 => c134 | 17 => c142 | 18 => c150 | _ => c158) (km_0 1 ceiling)) [0, 1, 2, 3, 4, 5, 6, 7, 8, 9, 10, 11, 12, 13, 14, 15, 16, 17, 18, 19] (by decide) rfl
        have hK9 := hK.sub (tys' := km_t (fun k => match k with | 1 => c17 | 2 => c25 | 3 => c33 | 4 => c41 | 5 => c49 | 6 => c57 | 7 => c65 | 8 => c73 | 9 => c81 | 10 => c89 | 11 => c97 | 12 => c105 | 13 => c113 | 14 => c120 | 15 => c127 | 16 => c134 | 17 => c142 | 18 => c150 | _ => c158)) [0, 1, 2, 3, 4, 5, 6, 7, 8, 9, 10, 11, 12, 13, 14, 15, 16, 17, 18] rfl
        exact W.vret hx hb hr (fun t ht hW => ⟨⟨(fun k => match k with | 0 => h0 | 1 => q17 | 2 => q25 | 3 => q33 | 4 => q41 | 5 => q49 | 6 => q57 | 7 => q65 | 8 => q73 | 9 => q81 | 10 => q89 | 11 => q97 | 12 => q105 | 13 => q113 | 14 => q120 | 15 => q127 | 16 => q134 | 17 => q142 | 18 => q150 | _ => q158, fun k => match k with | 1 => c17 | 2 => c25 | 3 => c33 | 4 => c41 | 5 => c49 | 6 => c57 | 7 => c65 | 8 => c73 | 9 => c81 | 10 => c89 | 11 => c97 | 12 => c105 | 13 => c113 | 14 => c120 | 15 => c127 | 16 => c134 | 17 => c142 | 18 => c150 | _ => c158), rfl, rfl, by rw [ht]; exact hP9, va_K.moved hW.alike hK9, hD9⟩, hS.F ht⟩) hS.2.2 dM_init_233 hlocks
      · rw [if_neg c_201] at hf
        refine lv_bipush (v := 31) hx hb dM_init_204 (by decide) ?_
        refine lv_goto (tgt := 210) hx hb dM_init_206 (by decide) ?_
        refine va_putF (D := (dC, dI)) (ci := 3) (v := .int 31) (ty := .int) (C := R_M) (T := T_M) (N := 23) hx hb hts uw_M ty_M ty_M_ok nm_M hown hK hP hD hS 0 rfl rfl 1 (by decide) (hts _ (List.mem_cons_of_mem _ wd_332)) (fun _ h9 => h9) rfl hin rfl (by decide +kernel) rfl rfl (Nat.le_of_ble_eq_true rfl) dM_init_210 (fun H locs hP hD hS => ?_)
        have hP : va_P (dC, dI) vwCl [(h0, .inr (3, [.int 1, .int 31, .int 0, .int 0, .ref q17, .ref q25, .ref q33, .ref q41, .ref q49, .ref q57, .ref q65, .ref q73, .ref q81, .ref q89, .ref q97, .ref q105, .ref q113, .ref q120, .ref q127, .ref q134, .ref q142, .ref q150, .ref q158])), (q17, .inl (c17, 8, .inl (fun _ => 0))), (q25, .inl (c25, 8, .inl (fun _ => 0))), (q33, .inl (c33, 8, .inl (fun _ => 0))), (q41, .inl (c41, 8, .inl (fun _ => 0))), (q49, .inl (c49, 8, .inl (fun _ => 0))), (q57, .inl (c57, 8, .inl (fun _ => 0))), (q65, .inl (c65, 8, .inl (fun _ => 0))), (q73, .inl (c73, 8, .inl (fun _ => 0))), (q81, .inl (c81, 8, .inl (fun _ => 0))), (q89, .inl (c89, 8, .inl (fun _ => 0))), (q97, .inl (c97, 8, .inl (fun _ => 0))), (q105, .inl (c105, 8, .inl (fun _ => 0))), (q113, .inl (c113, 8, .inl (fun _ => 0))), (q120, .inl (c120, 4, .inl (fun _ => 0))), (q127, .inl (c127, 2, .inl (fun _ => 0))), (q134, .inl (c134, 2, .inl (fun _ => 0))), (q142, .inl (c142, 8, .inl (fun _ => 0))), (q150, .inl (c150, 8, .inl (fun _ => 0))), (q158, .inl (c158, 8, .inl (fun _ => 0)))] H := hP
        have hD : va_D A [(h0, .inr (3, [.int 1, .int 31, .int 0, .int 0, .ref q17, .ref q25, .ref q33, .ref q41, .ref q49, .ref q57, .ref q65, .ref q73, .ref q81, .ref q89, .ref q97, .ref q105, .ref q113, .ref q120, .ref q127, .ref q134, .ref q142, .ref q150, .ref q158])), (q17, .inl (c17, 8, .inl (fun _ => 0))), (q25, .inl (c25, 8, .inl (fun _ => 0))), (q33, .inl (c33, 8, .inl (fun _ => 0))), (q41, .inl (c41, 8, .inl (fun _ => 0))), (q49, .inl (c49, 8, .inl (fun _ => 0))), (q57, .inl (c57, 8, .inl (fun _ => 0))), (q65, .inl (c65, 8, .inl (fun _ => 0))), (q73, .inl (c73, 8, .inl (fun _ => 0))), (q81, .inl (c81, 8, .inl (fun _ => 0))), (q89, .inl (c89, 8, .inl (fun _ => 0))), (q97, .inl (c97, 8, .inl (fun _ => 0))), (q105, .inl (c105, 8, .inl (fun _ => 0))), (q113, .inl (c113, 8, .inl (fun _ => 0))), (q120, .inl (c120, 4, .inl (fun _ => 0))), (q127, .inl (c127, 2, .inl (fun _ => 0))), (q134, .inl (c134, 2, .inl (fun _ => 0))), (q142, .inl (c142, 8, .inl (fun _ => 0))), (q150, .inl (c150, 8, .inl (fun _ => 0))), (q158, .inl (c158, 8, .inl (fun _ => 0)))] := hD
        refine lv_iconst (v := 0) hx hb dM_init_213 (by decide) ?_
        refine lv_istore_n (lv' := [(3, .int 0), (0, .ref h0), (1, .int slice), (2, .int ceiling)]) hx hb dM_init_214 rfl hl (by decide) rfl (fun ls hl => ?_)
        refine lv_iload_n hx hb dM_init_215 rfl (lv_at hl 0 rfl) ?_
        refine lv_iconst (v := 4) hx hb dM_init_216 (by decide) ?_
        refine lv_icmp_ge (tgt := 233) hx hb dM_init_217 (by decide) (fun c9 => absurd c9 (by decide)) (fun _ => ?_)
        refine lv_aload_n hx hb dM_init_220 rfl (lv_at hl 1 rfl) ?_
        refine va_get (D := (dC, dI)) (ci := 3) (v := .ref q120) (C := R_M) (T := T_M) (N := 23) hx hb hts uw_M hown hK hP 0 rfl rfl 17 (by decide) (hts _ (List.mem_cons_of_mem _ wd_348)) (fun _ h9 => h9) rfl dM_init_221 ?_
        refine lv_iload_n hx hb dM_init_224 rfl (lv_at hl 0 rfl) ?_
        refine lv_iconst (v := (-1)) hx hb dM_init_225 (by decide) ?_
        refine va_iast hx hb hK hP hD hS 14 13 rfl rfl (kk_inl (by decide)) dM_init_226 (fun H locs hP hD hS => ?_)
        rw [kk_c0] at hP hD
        have hP : va_P (dC, dI) vwCl [(h0, .inr (3, [.int 1, .int 31, .int 0, .int 0, .ref q17, .ref q25, .ref q33, .ref q41, .ref q49, .ref q57, .ref q65, .ref q73, .ref q81, .ref q89, .ref q97, .ref q105, .ref q113, .ref q120, .ref q127, .ref q134, .ref q142, .ref q150, .ref q158])), (q17, .inl (c17, 8, .inl (fun _ => 0))), (q25, .inl (c25, 8, .inl (fun _ => 0))), (q33, .inl (c33, 8, .inl (fun _ => 0))), (q41, .inl (c41, 8, .inl (fun _ => 0))), (q49, .inl (c49, 8, .inl (fun _ => 0))), (q57, .inl (c57, 8, .inl (fun _ => 0))), (q65, .inl (c65, 8, .inl (fun _ => 0))), (q73, .inl (c73, 8, .inl (fun _ => 0))), (q81, .inl (c81, 8, .inl (fun _ => 0))), (q89, .inl (c89, 8, .inl (fun _ => 0))), (q97, .inl (c97, 8, .inl (fun _ => 0))), (q105, .inl (c105, 8, .inl (fun _ => 0))), (q113, .inl (c113, 8, .inl (fun _ => 0))), (q120, .inl (c120, 4, .inl (upd (fun _ => 0) 0 (-1)))), (q127, .inl (c127, 2, .inl (fun _ => 0))), (q134, .inl (c134, 2, .inl (fun _ => 0))), (q142, .inl (c142, 8, .inl (fun _ => 0))), (q150, .inl (c150, 8, .inl (fun _ => 0))), (q158, .inl (c158, 8, .inl (fun _ => 0)))] H := hP
        have hD : va_D A [(h0, .inr (3, [.int 1, .int 31, .int 0, .int 0, .ref q17, .ref q25, .ref q33, .ref q41, .ref q49, .ref q57, .ref q65, .ref q73, .ref q81, .ref q89, .ref q97, .ref q105, .ref q113, .ref q120, .ref q127, .ref q134, .ref q142, .ref q150, .ref q158])), (q17, .inl (c17, 8, .inl (fun _ => 0))), (q25, .inl (c25, 8, .inl (fun _ => 0))), (q33, .inl (c33, 8, .inl (fun _ => 0))), (q41, .inl (c41, 8, .inl (fun _ => 0))), (q49, .inl (c49, 8, .inl (fun _ => 0))), (q57, .inl (c57, 8, .inl (fun _ => 0))), (q65, .inl (c65, 8, .inl (fun _ => 0))), (q73, .inl (c73, 8, .inl (fun _ => 0))), (q81, .inl (c81, 8, .inl (fun _ => 0))), (q89, .inl (c89, 8, .inl (fun _ => 0))), (q97, .inl (c97, 8, .inl (fun _ => 0))), (q105, .inl (c105, 8, .inl (fun _ => 0))), (q113, .inl (c113, 8, .inl (fun _ => 0))), (q120, .inl (c120, 4, .inl (upd (fun _ => 0) 0 (-1)))), (q127, .inl (c127, 2, .inl (fun _ => 0))), (q134, .inl (c134, 2, .inl (fun _ => 0))), (q142, .inl (c142, 8, .inl (fun _ => 0))), (q150, .inl (c150, 8, .inl (fun _ => 0))), (q158, .inl (c158, 8, .inl (fun _ => 0)))] := hD
        refine lv_iinc (v := 1) (lv' := [(3, .int 1), (0, .ref h0), (1, .int slice), (2, .int ceiling)]) hx hb dM_init_227 hl (k := 0) rfl (by decide) (by decide) rfl (fun ls hl => ?_)
        refine lv_goto (tgt := 215) hx hb dM_init_230 (by decide) ?_
        refine lv_iload_n hx hb dM_init_215 rfl (lv_at hl 0 rfl) ?_
        refine lv_iconst (v := 4) hx hb dM_init_216 (by decide) ?_
        refine lv_icmp_ge (tgt := 233) hx hb dM_init_217 (by decide) (fun c9 => absurd c9 (by decide)) (fun _ => ?_)
        refine lv_aload_n hx hb dM_init_220 rfl (lv_at hl 1 rfl) ?_
        refine va_get (D := (dC, dI)) (ci := 3) (v := .ref q120) (C := R_M) (T := T_M) (N := 23) hx hb hts uw_M hown hK hP 0 rfl rfl 17 (by decide) (hts _ (List.mem_cons_of_mem _ wd_348)) (fun _ h9 => h9) rfl dM_init_221 ?_
        refine lv_iload_n hx hb dM_init_224 rfl (lv_at hl 0 rfl) ?_
        refine lv_iconst (v := (-1)) hx hb dM_init_225 (by decide) ?_
        refine va_iast hx hb hK hP hD hS 14 13 rfl rfl (kk_inl (by decide)) dM_init_226 (fun H locs hP hD hS => ?_)
        rw [kk_c1] at hP hD
        have hP : va_P (dC, dI) vwCl [(h0, .inr (3, [.int 1, .int 31, .int 0, .int 0, .ref q17, .ref q25, .ref q33, .ref q41, .ref q49, .ref q57, .ref q65, .ref q73, .ref q81, .ref q89, .ref q97, .ref q105, .ref q113, .ref q120, .ref q127, .ref q134, .ref q142, .ref q150, .ref q158])), (q17, .inl (c17, 8, .inl (fun _ => 0))), (q25, .inl (c25, 8, .inl (fun _ => 0))), (q33, .inl (c33, 8, .inl (fun _ => 0))), (q41, .inl (c41, 8, .inl (fun _ => 0))), (q49, .inl (c49, 8, .inl (fun _ => 0))), (q57, .inl (c57, 8, .inl (fun _ => 0))), (q65, .inl (c65, 8, .inl (fun _ => 0))), (q73, .inl (c73, 8, .inl (fun _ => 0))), (q81, .inl (c81, 8, .inl (fun _ => 0))), (q89, .inl (c89, 8, .inl (fun _ => 0))), (q97, .inl (c97, 8, .inl (fun _ => 0))), (q105, .inl (c105, 8, .inl (fun _ => 0))), (q113, .inl (c113, 8, .inl (fun _ => 0))), (q120, .inl (c120, 4, .inl (upd (upd (fun _ => 0) 0 (-1)) 1 (-1)))), (q127, .inl (c127, 2, .inl (fun _ => 0))), (q134, .inl (c134, 2, .inl (fun _ => 0))), (q142, .inl (c142, 8, .inl (fun _ => 0))), (q150, .inl (c150, 8, .inl (fun _ => 0))), (q158, .inl (c158, 8, .inl (fun _ => 0)))] H := hP
        have hD : va_D A [(h0, .inr (3, [.int 1, .int 31, .int 0, .int 0, .ref q17, .ref q25, .ref q33, .ref q41, .ref q49, .ref q57, .ref q65, .ref q73, .ref q81, .ref q89, .ref q97, .ref q105, .ref q113, .ref q120, .ref q127, .ref q134, .ref q142, .ref q150, .ref q158])), (q17, .inl (c17, 8, .inl (fun _ => 0))), (q25, .inl (c25, 8, .inl (fun _ => 0))), (q33, .inl (c33, 8, .inl (fun _ => 0))), (q41, .inl (c41, 8, .inl (fun _ => 0))), (q49, .inl (c49, 8, .inl (fun _ => 0))), (q57, .inl (c57, 8, .inl (fun _ => 0))), (q65, .inl (c65, 8, .inl (fun _ => 0))), (q73, .inl (c73, 8, .inl (fun _ => 0))), (q81, .inl (c81, 8, .inl (fun _ => 0))), (q89, .inl (c89, 8, .inl (fun _ => 0))), (q97, .inl (c97, 8, .inl (fun _ => 0))), (q105, .inl (c105, 8, .inl (fun _ => 0))), (q113, .inl (c113, 8, .inl (fun _ => 0))), (q120, .inl (c120, 4, .inl (upd (upd (fun _ => 0) 0 (-1)) 1 (-1)))), (q127, .inl (c127, 2, .inl (fun _ => 0))), (q134, .inl (c134, 2, .inl (fun _ => 0))), (q142, .inl (c142, 8, .inl (fun _ => 0))), (q150, .inl (c150, 8, .inl (fun _ => 0))), (q158, .inl (c158, 8, .inl (fun _ => 0)))] := hD
        refine lv_iinc (v := 2) (lv' := [(3, .int 2), (0, .ref h0), (1, .int slice), (2, .int ceiling)]) hx hb dM_init_227 hl (k := 0) rfl (by decide) (by decide) rfl (fun ls hl => ?_)
        refine lv_goto (tgt := 215) hx hb dM_init_230 (by decide) ?_
        refine lv_iload_n hx hb dM_init_215 rfl (lv_at hl 0 rfl) ?_
        refine lv_iconst (v := 4) hx hb dM_init_216 (by decide) ?_
        refine lv_icmp_ge (tgt := 233) hx hb dM_init_217 (by decide) (fun c9 => absurd c9 (by decide)) (fun _ => ?_)
        refine lv_aload_n hx hb dM_init_220 rfl (lv_at hl 1 rfl) ?_
        refine va_get (D := (dC, dI)) (ci := 3) (v := .ref q120) (C := R_M) (T := T_M) (N := 23) hx hb hts uw_M hown hK hP 0 rfl rfl 17 (by decide) (hts _ (List.mem_cons_of_mem _ wd_348)) (fun _ h9 => h9) rfl dM_init_221 ?_
        refine lv_iload_n hx hb dM_init_224 rfl (lv_at hl 0 rfl) ?_
        refine lv_iconst (v := (-1)) hx hb dM_init_225 (by decide) ?_
        refine va_iast hx hb hK hP hD hS 14 13 rfl rfl (kk_inl (by decide)) dM_init_226 (fun H locs hP hD hS => ?_)
        rw [kk_c2] at hP hD
        have hP : va_P (dC, dI) vwCl [(h0, .inr (3, [.int 1, .int 31, .int 0, .int 0, .ref q17, .ref q25, .ref q33, .ref q41, .ref q49, .ref q57, .ref q65, .ref q73, .ref q81, .ref q89, .ref q97, .ref q105, .ref q113, .ref q120, .ref q127, .ref q134, .ref q142, .ref q150, .ref q158])), (q17, .inl (c17, 8, .inl (fun _ => 0))), (q25, .inl (c25, 8, .inl (fun _ => 0))), (q33, .inl (c33, 8, .inl (fun _ => 0))), (q41, .inl (c41, 8, .inl (fun _ => 0))), (q49, .inl (c49, 8, .inl (fun _ => 0))), (q57, .inl (c57, 8, .inl (fun _ => 0))), (q65, .inl (c65, 8, .inl (fun _ => 0))), (q73, .inl (c73, 8, .inl (fun _ => 0))), (q81, .inl (c81, 8, .inl (fun _ => 0))), (q89, .inl (c89, 8, .inl (fun _ => 0))), (q97, .inl (c97, 8, .inl (fun _ => 0))), (q105, .inl (c105, 8, .inl (fun _ => 0))), (q113, .inl (c113, 8, .inl (fun _ => 0))), (q120, .inl (c120, 4, .inl (upd (upd (upd (fun _ => 0) 0 (-1)) 1 (-1)) 2 (-1)))), (q127, .inl (c127, 2, .inl (fun _ => 0))), (q134, .inl (c134, 2, .inl (fun _ => 0))), (q142, .inl (c142, 8, .inl (fun _ => 0))), (q150, .inl (c150, 8, .inl (fun _ => 0))), (q158, .inl (c158, 8, .inl (fun _ => 0)))] H := hP
        have hD : va_D A [(h0, .inr (3, [.int 1, .int 31, .int 0, .int 0, .ref q17, .ref q25, .ref q33, .ref q41, .ref q49, .ref q57, .ref q65, .ref q73, .ref q81, .ref q89, .ref q97, .ref q105, .ref q113, .ref q120, .ref q127, .ref q134, .ref q142, .ref q150, .ref q158])), (q17, .inl (c17, 8, .inl (fun _ => 0))), (q25, .inl (c25, 8, .inl (fun _ => 0))), (q33, .inl (c33, 8, .inl (fun _ => 0))), (q41, .inl (c41, 8, .inl (fun _ => 0))), (q49, .inl (c49, 8, .inl (fun _ => 0))), (q57, .inl (c57, 8, .inl (fun _ => 0))), (q65, .inl (c65, 8, .inl (fun _ => 0))), (q73, .inl (c73, 8, .inl (fun _ => 0))), (q81, .inl (c81, 8, .inl (fun _ => 0))), (q89, .inl (c89, 8, .inl (fun _ => 0))), (q97, .inl (c97, 8, .inl (fun _ => 0))), (q105, .inl (c105, 8, .inl (fun _ => 0))), (q113, .inl (c113, 8, .inl (fun _ => 0))), (q120, .inl (c120, 4, .inl (upd (upd (upd (fun _ => 0) 0 (-1)) 1 (-1)) 2 (-1)))), (q127, .inl (c127, 2, .inl (fun _ => 0))), (q134, .inl (c134, 2, .inl (fun _ => 0))), (q142, .inl (c142, 8, .inl (fun _ => 0))), (q150, .inl (c150, 8, .inl (fun _ => 0))), (q158, .inl (c158, 8, .inl (fun _ => 0)))] := hD
        refine lv_iinc (v := 3) (lv' := [(3, .int 3), (0, .ref h0), (1, .int slice), (2, .int ceiling)]) hx hb dM_init_227 hl (k := 0) rfl (by decide) (by decide) rfl (fun ls hl => ?_)
        refine lv_goto (tgt := 215) hx hb dM_init_230 (by decide) ?_
        refine lv_iload_n hx hb dM_init_215 rfl (lv_at hl 0 rfl) ?_
        refine lv_iconst (v := 4) hx hb dM_init_216 (by decide) ?_
        refine lv_icmp_ge (tgt := 233) hx hb dM_init_217 (by decide) (fun c9 => absurd c9 (by decide)) (fun _ => ?_)
        refine lv_aload_n hx hb dM_init_220 rfl (lv_at hl 1 rfl) ?_
        refine va_get (D := (dC, dI)) (ci := 3) (v := .ref q120) (C := R_M) (T := T_M) (N := 23) hx hb hts uw_M hown hK hP 0 rfl rfl 17 (by decide) (hts _ (List.mem_cons_of_mem _ wd_348)) (fun _ h9 => h9) rfl dM_init_221 ?_
        refine lv_iload_n hx hb dM_init_224 rfl (lv_at hl 0 rfl) ?_
        refine lv_iconst (v := (-1)) hx hb dM_init_225 (by decide) ?_
        refine va_iast hx hb hK hP hD hS 14 13 rfl rfl (kk_inl (by decide)) dM_init_226 (fun H locs hP hD hS => ?_)
        rw [kk_c3] at hP hD
        have hP : va_P (dC, dI) vwCl [(h0, .inr (3, [.int 1, .int 31, .int 0, .int 0, .ref q17, .ref q25, .ref q33, .ref q41, .ref q49, .ref q57, .ref q65, .ref q73, .ref q81, .ref q89, .ref q97, .ref q105, .ref q113, .ref q120, .ref q127, .ref q134, .ref q142, .ref q150, .ref q158])), (q17, .inl (c17, 8, .inl (fun _ => 0))), (q25, .inl (c25, 8, .inl (fun _ => 0))), (q33, .inl (c33, 8, .inl (fun _ => 0))), (q41, .inl (c41, 8, .inl (fun _ => 0))), (q49, .inl (c49, 8, .inl (fun _ => 0))), (q57, .inl (c57, 8, .inl (fun _ => 0))), (q65, .inl (c65, 8, .inl (fun _ => 0))), (q73, .inl (c73, 8, .inl (fun _ => 0))), (q81, .inl (c81, 8, .inl (fun _ => 0))), (q89, .inl (c89, 8, .inl (fun _ => 0))), (q97, .inl (c97, 8, .inl (fun _ => 0))), (q105, .inl (c105, 8, .inl (fun _ => 0))), (q113, .inl (c113, 8, .inl (fun _ => 0))), (q120, .inl (c120, 4, .inl (upd (upd (upd (upd (fun _ => 0) 0 (-1)) 1 (-1)) 2 (-1)) 3 (-1)))), (q127, .inl (c127, 2, .inl (fun _ => 0))), (q134, .inl (c134, 2, .inl (fun _ => 0))), (q142, .inl (c142, 8, .inl (fun _ => 0))), (q150, .inl (c150, 8, .inl (fun _ => 0))), (q158, .inl (c158, 8, .inl (fun _ => 0)))] H := hP
        have hD : va_D A [(h0, .inr (3, [.int 1, .int 31, .int 0, .int 0, .ref q17, .ref q25, .ref q33, .ref q41, .ref q49, .ref q57, .ref q65, .ref q73, .ref q81, .ref q89, .ref q97, .ref q105, .ref q113, .ref q120, .ref q127, .ref q134, .ref q142, .ref q150, .ref q158])), (q17, .inl (c17, 8, .inl (fun _ => 0))), (q25, .inl (c25, 8, .inl (fun _ => 0))), (q33, .inl (c33, 8, .inl (fun _ => 0))), (q41, .inl (c41, 8, .inl (fun _ => 0))), (q49, .inl (c49, 8, .inl (fun _ => 0))), (q57, .inl (c57, 8, .inl (fun _ => 0))), (q65, .inl (c65, 8, .inl (fun _ => 0))), (q73, .inl (c73, 8, .inl (fun _ => 0))), (q81, .inl (c81, 8, .inl (fun _ => 0))), (q89, .inl (c89, 8, .inl (fun _ => 0))), (q97, .inl (c97, 8, .inl (fun _ => 0))), (q105, .inl (c105, 8, .inl (fun _ => 0))), (q113, .inl (c113, 8, .inl (fun _ => 0))), (q120, .inl (c120, 4, .inl (upd (upd (upd (upd (fun _ => 0) 0 (-1)) 1 (-1)) 2 (-1)) 3 (-1)))), (q127, .inl (c127, 2, .inl (fun _ => 0))), (q134, .inl (c134, 2, .inl (fun _ => 0))), (q142, .inl (c142, 8, .inl (fun _ => 0))), (q150, .inl (c150, 8, .inl (fun _ => 0))), (q158, .inl (c158, 8, .inl (fun _ => 0)))] := hD
        refine lv_iinc (v := 4) (lv' := [(3, .int 4), (0, .ref h0), (1, .int slice), (2, .int ceiling)]) hx hb dM_init_227 hl (k := 0) rfl (by decide) (by decide) rfl (fun ls hl => ?_)
        refine lv_goto (tgt := 215) hx hb dM_init_230 (by decide) ?_
        refine lv_iload_n hx hb dM_init_215 rfl (lv_at hl 0 rfl) ?_
        refine lv_iconst (v := 4) hx hb dM_init_216 (by decide) ?_
        refine lv_icmp_ge (tgt := 233) hx hb dM_init_217 (by decide) (fun _ => ?_) (fun c9 => absurd (by decide) c9)
        subst hf
        have hP9 := hP.sub (ws' := km_w (fun k => match k with | 0 => h0 | 1 => q17 | 2 => q25 | 3 => q33 | 4 => q41 | 5 => q49 | 6 => q57 | 7 => q65 | 8 => q73 | 9 => q81 | 10 => q89 | 11 => q97 | 12 => q105 | 13 => q113 | 14 => q120 | 15 => q127 | 16 => q134 | 17 => q142 | 18 => q150 | _ => q158) (fun k => match k with | 1 => c17 | 2 => c25 | 3 => c33 | 4 => c41 | 5 => c49 | 6 => c57 | 7 => c65 | 8 => c73 | 9 => c81 | 10 => c89 | 11 => c97 | 12 => c105 | 13 => c113 | 14 => c120 | 15 => c127 | 16 => c134 | 17 => c142 | 18 => c150 | _ => c158) (km_0 1 31)) [0, 1, 2, 3, 4, 5, 6, 7, 8, 9, 10, 11, 12, 13, 14, 15, 16, 17, 18, 19] rfl
        have hD9 := hD.sub (ws' := km_w (fun k => match k with | 0 => h0 | 1 => q17 | 2 => q25 | 3 => q33 | 4 => q41 | 5 => q49 | 6 => q57 | 7 => q65 | 8 => q73 | 9 => q81 | 10 => q89 | 11 => q97 | 12 => q105 | 13 => q113 | 14 => q120 | 15 => q127 | 16 => q134 | 17 => q142 | 18 => q150 | _ => q158) (fun k => match k with | 1 => c17 | 2 => c25 | 3 => c33 | 4 => c41 | 5 => c49 | 6 => c57 | 7 => c65 | 8 => c73 | 9 => c81 | 10 => c89 | 11 => c97 | 12 => c105 | 13 => c113 | 14 => c120 | 15 => c127 | 16 => c134 | 17 => c142 | 18 => c150 | _ => c158) (km_0 1 31)) [0, 1, 2, 3, 4, 5, 6, 7, 8, 9, 10, 11, 12, 13, 14, 15, 16, 17, 18, 19] (by decide) rfl
        have hK9 := hK.sub (tys' := km_t (fun k => match k with | 1 => c17 | 2 => c25 | 3 => c33 | 4 => c41 | 5 => c49 | 6 => c57 | 7 => c65 | 8 => c73 | 9 => c81 | 10 => c89 | 11 => c97 | 12 => c105 | 13 => c113 | 14 => c120 | 15 => c127 | 16 => c134 | 17 => c142 | 18 => c150 | _ => c158)) [0, 1, 2, 3, 4, 5, 6, 7, 8, 9, 10, 11, 12, 13, 14, 15, 16, 17, 18] rfl
        exact W.vret hx hb hr (fun t ht hW => ⟨⟨(fun k => match k with | 0 => h0 | 1 => q17 | 2 => q25 | 3 => q33 | 4 => q41 | 5 => q49 | 6 => q57 | 7 => q65 | 8 => q73 | 9 => q81 | 10 => q89 | 11 => q97 | 12 => q105 | 13 => q113 | 14 => q120 | 15 => q127 | 16 => q134 | 17 => q142 | 18 => q150 | _ => q158, fun k => match k with | 1 => c17 | 2 => c25 | 3 => c33 | 4 => c41 | 5 => c49 | 6 => c57 | 7 => c65 | 8 => c73 | 9 => c81 | 10 => c89 | 11 => c97 | 12 => c105 | 13 => c113 | 14 => c120 | 15 => c127 | 16 => c134 | 17 => c142 | 18 => c150 | _ => c158), rfl, rfl, by rw [ht]; exact hP9, va_K.moved hW.alike hK9, hD9⟩, hS.F ht⟩) hS.2.2 dM_init_233 hlocks
    · rw [if_neg c_191] at hf
      refine lv_iconst (v := 1) hx hb dM_init_194 (by decide) ?_
      refine lv_goto (tgt := 210) hx hb dM_init_195 (by decide) ?_
      refine va_putF (D := (dC, dI)) (ci := 3) (v := .int 1) (ty := .int) (C := R_M) (T := T_M) (N := 23) hx hb hts uw_M ty_M ty_M_ok nm_M hown hK hP hD hS 0 rfl rfl 1 (by decide) (hts _ (List.mem_cons_of_mem _ wd_332)) (fun _ h9 => h9) rfl hin rfl (by decide +kernel) rfl rfl (Nat.le_of_ble_eq_true rfl) dM_init_210 (fun H locs hP hD hS => ?_)
      have hP : va_P (dC, dI) vwCl [(h0, .inr (3, [.int 1, .int 1, .int 0, .int 0, .ref q17, .ref q25, .ref q33, .ref q41, .ref q49, .ref q57, .ref q65, .ref q73, .ref q81, .ref q89, .ref q97, .ref q105, .ref q113, .ref q120, .ref q127, .ref q134, .ref q142, .ref q150, .ref q158])), (q17, .inl (c17, 8, .inl (fun _ => 0))), (q25, .inl (c25, 8, .inl (fun _ => 0))), (q33, .inl (c33, 8, .inl (fun _ => 0))), (q41, .inl (c41, 8, .inl (fun _ => 0))), (q49, .inl (c49, 8, .inl (fun _ => 0))), (q57, .inl (c57, 8, .inl (fun _ => 0))), (q65, .inl (c65, 8, .inl (fun _ => 0))), (q73, .inl (c73, 8, .inl (fun _ => 0))), (q81, .inl (c81, 8, .inl (fun _ => 0))), (q89, .inl (c89, 8, .inl (fun _ => 0))), (q97, .inl (c97, 8, .inl (fun _ => 0))), (q105, .inl (c105, 8, .inl (fun _ => 0))), (q113, .inl (c113, 8, .inl (fun _ => 0))), (q120, .inl (c120, 4, .inl (fun _ => 0))), (q127, .inl (c127, 2, .inl (fun _ => 0))), (q134, .inl (c134, 2, .inl (fun _ => 0))), (q142, .inl (c142, 8, .inl (fun _ => 0))), (q150, .inl (c150, 8, .inl (fun _ => 0))), (q158, .inl (c158, 8, .inl (fun _ => 0)))] H := hP
      have hD : va_D A [(h0, .inr (3, [.int 1, .int 1, .int 0, .int 0, .ref q17, .ref q25, .ref q33, .ref q41, .ref q49, .ref q57, .ref q65, .ref q73, .ref q81, .ref q89, .ref q97, .ref q105, .ref q113, .ref q120, .ref q127, .ref q134, .ref q142, .ref q150, .ref q158])), (q17, .inl (c17, 8, .inl (fun _ => 0))), (q25, .inl (c25, 8, .inl (fun _ => 0))), (q33, .inl (c33, 8, .inl (fun _ => 0))), (q41, .inl (c41, 8, .inl (fun _ => 0))), (q49, .inl (c49, 8, .inl (fun _ => 0))), (q57, .inl (c57, 8, .inl (fun _ => 0))), (q65, .inl (c65, 8, .inl (fun _ => 0))), (q73, .inl (c73, 8, .inl (fun _ => 0))), (q81, .inl (c81, 8, .inl (fun _ => 0))), (q89, .inl (c89, 8, .inl (fun _ => 0))), (q97, .inl (c97, 8, .inl (fun _ => 0))), (q105, .inl (c105, 8, .inl (fun _ => 0))), (q113, .inl (c113, 8, .inl (fun _ => 0))), (q120, .inl (c120, 4, .inl (fun _ => 0))), (q127, .inl (c127, 2, .inl (fun _ => 0))), (q134, .inl (c134, 2, .inl (fun _ => 0))), (q142, .inl (c142, 8, .inl (fun _ => 0))), (q150, .inl (c150, 8, .inl (fun _ => 0))), (q158, .inl (c158, 8, .inl (fun _ => 0)))] := hD
      refine lv_iconst (v := 0) hx hb dM_init_213 (by decide) ?_
      refine lv_istore_n (lv' := [(3, .int 0), (0, .ref h0), (1, .int slice), (2, .int ceiling)]) hx hb dM_init_214 rfl hl (by decide) rfl (fun ls hl => ?_)
      refine lv_iload_n hx hb dM_init_215 rfl (lv_at hl 0 rfl) ?_
      refine lv_iconst (v := 4) hx hb dM_init_216 (by decide) ?_
      refine lv_icmp_ge (tgt := 233) hx hb dM_init_217 (by decide) (fun c9 => absurd c9 (by decide)) (fun _ => ?_)
      refine lv_aload_n hx hb dM_init_220 rfl (lv_at hl 1 rfl) ?_
      refine va_get (D := (dC, dI)) (ci := 3) (v := .ref q120) (C := R_M) (T := T_M) (N := 23) hx hb hts uw_M hown hK hP 0 rfl rfl 17 (by decide) (hts _ (List.mem_cons_of_mem _ wd_348)) (fun _ h9 => h9) rfl dM_init_221 ?_
      refine lv_iload_n hx hb dM_init_224 rfl (lv_at hl 0 rfl) ?_
      refine lv_iconst (v := (-1)) hx hb dM_init_225 (by decide) ?_
      refine va_iast hx hb hK hP hD hS 14 13 rfl rfl (kk_inl (by decide)) dM_init_226 (fun H locs hP hD hS => ?_)
      rw [kk_c0] at hP hD
      have hP : va_P (dC, dI) vwCl [(h0, .inr (3, [.int 1, .int 1, .int 0, .int 0, .ref q17, .ref q25, .ref q33, .ref q41, .ref q49, .ref q57, .ref q65, .ref q73, .ref q81, .ref q89, .ref q97, .ref q105, .ref q113, .ref q120, .ref q127, .ref q134, .ref q142, .ref q150, .ref q158])), (q17, .inl (c17, 8, .inl (fun _ => 0))), (q25, .inl (c25, 8, .inl (fun _ => 0))), (q33, .inl (c33, 8, .inl (fun _ => 0))), (q41, .inl (c41, 8, .inl (fun _ => 0))), (q49, .inl (c49, 8, .inl (fun _ => 0))), (q57, .inl (c57, 8, .inl (fun _ => 0))), (q65, .inl (c65, 8, .inl (fun _ => 0))), (q73, .inl (c73, 8, .inl (fun _ => 0))), (q81, .inl (c81, 8, .inl (fun _ => 0))), (q89, .inl (c89, 8, .inl (fun _ => 0))), (q97, .inl (c97, 8, .inl (fun _ => 0))), (q105, .inl (c105, 8, .inl (fun _ => 0))), (q113, .inl (c113, 8, .inl (fun _ => 0))), (q120, .inl (c120, 4, .inl (upd (fun _ => 0) 0 (-1)))), (q127, .inl (c127, 2, .inl (fun _ => 0))), (q134, .inl (c134, 2, .inl (fun _ => 0))), (q142, .inl (c142, 8, .inl (fun _ => 0))), (q150, .inl (c150, 8, .inl (fun _ => 0))), (q158, .inl (c158, 8, .inl (fun _ => 0)))] H := hP
      have hD : va_D A [(h0, .inr (3, [.int 1, .int 1, .int 0, .int 0, .ref q17, .ref q25, .ref q33, .ref q41, .ref q49, .ref q57, .ref q65, .ref q73, .ref q81, .ref q89, .ref q97, .ref q105, .ref q113, .ref q120, .ref q127, .ref q134, .ref q142, .ref q150, .ref q158])), (q17, .inl (c17, 8, .inl (fun _ => 0))), (q25, .inl (c25, 8, .inl (fun _ => 0))), (q33, .inl (c33, 8, .inl (fun _ => 0))), (q41, .inl (c41, 8, .inl (fun _ => 0))), (q49, .inl (c49, 8, .inl (fun _ => 0))), (q57, .inl (c57, 8, .inl (fun _ => 0))), (q65, .inl (c65, 8, .inl (fun _ => 0))), (q73, .inl (c73, 8, .inl (fun _ => 0))), (q81, .inl (c81, 8, .inl (fun _ => 0))), (q89, .inl (c89, 8, .inl (fun _ => 0))), (q97, .inl (c97, 8, .inl (fun _ => 0))), (q105, .inl (c105, 8, .inl (fun _ => 0))), (q113, .inl (c113, 8, .inl (fun _ => 0))), (q120, .inl (c120, 4, .inl (upd (fun _ => 0) 0 (-1)))), (q127, .inl (c127, 2, .inl (fun _ => 0))), (q134, .inl (c134, 2, .inl (fun _ => 0))), (q142, .inl (c142, 8, .inl (fun _ => 0))), (q150, .inl (c150, 8, .inl (fun _ => 0))), (q158, .inl (c158, 8, .inl (fun _ => 0)))] := hD
      refine lv_iinc (v := 1) (lv' := [(3, .int 1), (0, .ref h0), (1, .int slice), (2, .int ceiling)]) hx hb dM_init_227 hl (k := 0) rfl (by decide) (by decide) rfl (fun ls hl => ?_)
      refine lv_goto (tgt := 215) hx hb dM_init_230 (by decide) ?_
      refine lv_iload_n hx hb dM_init_215 rfl (lv_at hl 0 rfl) ?_
      refine lv_iconst (v := 4) hx hb dM_init_216 (by decide) ?_
      refine lv_icmp_ge (tgt := 233) hx hb dM_init_217 (by decide) (fun c9 => absurd c9 (by decide)) (fun _ => ?_)
      refine lv_aload_n hx hb dM_init_220 rfl (lv_at hl 1 rfl) ?_
      refine va_get (D := (dC, dI)) (ci := 3) (v := .ref q120) (C := R_M) (T := T_M) (N := 23) hx hb hts uw_M hown hK hP 0 rfl rfl 17 (by decide) (hts _ (List.mem_cons_of_mem _ wd_348)) (fun _ h9 => h9) rfl dM_init_221 ?_
      refine lv_iload_n hx hb dM_init_224 rfl (lv_at hl 0 rfl) ?_
      refine lv_iconst (v := (-1)) hx hb dM_init_225 (by decide) ?_
      refine va_iast hx hb hK hP hD hS 14 13 rfl rfl (kk_inl (by decide)) dM_init_226 (fun H locs hP hD hS => ?_)
      rw [kk_c1] at hP hD
      have hP : va_P (dC, dI) vwCl [(h0, .inr (3, [.int 1, .int 1, .int 0, .int 0, .ref q17, .ref q25, .ref q33, .ref q41, .ref q49, .ref q57, .ref q65, .ref q73, .ref q81, .ref q89, .ref q97, .ref q105, .ref q113, .ref q120, .ref q127, .ref q134, .ref q142, .ref q150, .ref q158])), (q17, .inl (c17, 8, .inl (fun _ => 0))), (q25, .inl (c25, 8, .inl (fun _ => 0))), (q33, .inl (c33, 8, .inl (fun _ => 0))), (q41, .inl (c41, 8, .inl (fun _ => 0))), (q49, .inl (c49, 8, .inl (fun _ => 0))), (q57, .inl (c57, 8, .inl (fun _ => 0))), (q65, .inl (c65, 8, .inl (fun _ => 0))), (q73, .inl (c73, 8, .inl (fun _ => 0))), (q81, .inl (c81, 8, .inl (fun _ => 0))), (q89, .inl (c89, 8, .inl (fun _ => 0))), (q97, .inl (c97, 8, .inl (fun _ => 0))), (q105, .inl (c105, 8, .inl (fun _ => 0))), (q113, .inl (c113, 8, .inl (fun _ => 0))), (q120, .inl (c120, 4, .inl (upd (upd (fun _ => 0) 0 (-1)) 1 (-1)))), (q127, .inl (c127, 2, .inl (fun _ => 0))), (q134, .inl (c134, 2, .inl (fun _ => 0))), (q142, .inl (c142, 8, .inl (fun _ => 0))), (q150, .inl (c150, 8, .inl (fun _ => 0))), (q158, .inl (c158, 8, .inl (fun _ => 0)))] H := hP
      have hD : va_D A [(h0, .inr (3, [.int 1, .int 1, .int 0, .int 0, .ref q17, .ref q25, .ref q33, .ref q41, .ref q49, .ref q57, .ref q65, .ref q73, .ref q81, .ref q89, .ref q97, .ref q105, .ref q113, .ref q120, .ref q127, .ref q134, .ref q142, .ref q150, .ref q158])), (q17, .inl (c17, 8, .inl (fun _ => 0))), (q25, .inl (c25, 8, .inl (fun _ => 0))), (q33, .inl (c33, 8, .inl (fun _ => 0))), (q41, .inl (c41, 8, .inl (fun _ => 0))), (q49, .inl (c49, 8, .inl (fun _ => 0))), (q57, .inl (c57, 8, .inl (fun _ => 0))), (q65, .inl (c65, 8, .inl (fun _ => 0))), (q73, .inl (c73, 8, .inl (fun _ => 0))), (q81, .inl (c81, 8, .inl (fun _ => 0))), (q89, .inl (c89, 8, .inl (fun _ => 0))), (q97, .inl (c97, 8, .inl (fun _ => 0))), (q105, .inl (c105, 8, .inl (fun _ => 0))), (q113, .inl (c113, 8, .inl (fun _ => 0))), (q120, .inl (c120, 4, .inl (upd (upd (fun _ => 0) 0 (-1)) 1 (-1)))), (q127, .inl (c127, 2, .inl (fun _ => 0))), (q134, .inl (c134, 2, .inl (fun _ => 0))), (q142, .inl (c142, 8, .inl (fun _ => 0))), (q150, .inl (c150, 8, .inl (fun _ => 0))), (q158, .inl (c158, 8, .inl (fun _ => 0)))] := hD
      refine lv_iinc (v := 2) (lv' := [(3, .int 2), (0, .ref h0), (1, .int slice), (2, .int ceiling)]) hx hb dM_init_227 hl (k := 0) rfl (by decide) (by decide) rfl (fun ls hl => ?_)
      refine lv_goto (tgt := 215) hx hb dM_init_230 (by decide) ?_
      refine lv_iload_n hx hb dM_init_215 rfl (lv_at hl 0 rfl) ?_
      refine lv_iconst (v := 4) hx hb dM_init_216 (by decide) ?_
      refine lv_icmp_ge (tgt := 233) hx hb dM_init_217 (by decide) (fun c9 => absurd c9 (by decide)) (fun _ => ?_)
      refine lv_aload_n hx hb dM_init_220 rfl (lv_at hl 1 rfl) ?_
      refine va_get (D := (dC, dI)) (ci := 3) (v := .ref q120) (C := R_M) (T := T_M) (N := 23) hx hb hts uw_M hown hK hP 0 rfl rfl 17 (by decide) (hts _ (List.mem_cons_of_mem _ wd_348)) (fun _ h9 => h9) rfl dM_init_221 ?_
      refine lv_iload_n hx hb dM_init_224 rfl (lv_at hl 0 rfl) ?_
      refine lv_iconst (v := (-1)) hx hb dM_init_225 (by decide) ?_
      refine va_iast hx hb hK hP hD hS 14 13 rfl rfl (kk_inl (by decide)) dM_init_226 (fun H locs hP hD hS => ?_)
      rw [kk_c2] at hP hD
      have hP : va_P (dC, dI) vwCl [(h0, .inr (3, [.int 1, .int 1, .int 0, .int 0, .ref q17, .ref q25, .ref q33, .ref q41, .ref q49, .ref q57, .ref q65, .ref q73, .ref q81, .ref q89, .ref q97, .ref q105, .ref q113, .ref q120, .ref q127, .ref q134, .ref q142, .ref q150, .ref q158])), (q17, .inl (c17, 8, .inl (fun _ => 0))), (q25, .inl (c25, 8, .inl (fun _ => 0))), (q33, .inl (c33, 8, .inl (fun _ => 0))), (q41, .inl (c41, 8, .inl (fun _ => 0))), (q49, .inl (c49, 8, .inl (fun _ => 0))), (q57, .inl (c57, 8, .inl (fun _ => 0))), (q65, .inl (c65, 8, .inl (fun _ => 0))), (q73, .inl (c73, 8, .inl (fun _ => 0))), (q81, .inl (c81, 8, .inl (fun _ => 0))), (q89, .inl (c89, 8, .inl (fun _ => 0))), (q97, .inl (c97, 8, .inl (fun _ => 0))), (q105, .inl (c105, 8, .inl (fun _ => 0))), (q113, .inl (c113, 8, .inl (fun _ => 0))), (q120, .inl (c120, 4, .inl (upd (upd (upd (fun _ => 0) 0 (-1)) 1 (-1)) 2 (-1)))), (q127, .inl (c127, 2, .inl (fun _ => 0))), (q134, .inl (c134, 2, .inl (fun _ => 0))), (q142, .inl (c142, 8, .inl (fun _ => 0))), (q150, .inl (c150, 8, .inl (fun _ => 0))), (q158, .inl (c158, 8, .inl (fun _ => 0)))] H := hP
      have hD : va_D A [(h0, .inr (3, [.int 1, .int 1, .int 0, .int 0, .ref q17, .ref q25, .ref q33, .ref q41, .ref q49, .ref q57, .ref q65, .ref q73, .ref q81, .ref q89, .ref q97, .ref q105, .ref q113, .ref q120, .ref q127, .ref q134, .ref q142, .ref q150, .ref q158])), (q17, .inl (c17, 8, .inl (fun _ => 0))), (q25, .inl (c25, 8, .inl (fun _ => 0))), (q33, .inl (c33, 8, .inl (fun _ => 0))), (q41, .inl (c41, 8, .inl (fun _ => 0))), (q49, .inl (c49, 8, .inl (fun _ => 0))), (q57, .inl (c57, 8, .inl (fun _ => 0))), (q65, .inl (c65, 8, .inl (fun _ => 0))), (q73, .inl (c73, 8, .inl (fun _ => 0))), (q81, .inl (c81, 8, .inl (fun _ => 0))), (q89, .inl (c89, 8, .inl (fun _ => 0))), (q97, .inl (c97, 8, .inl (fun _ => 0))), (q105, .inl (c105, 8, .inl (fun _ => 0))), (q113, .inl (c113, 8, .inl (fun _ => 0))), (q120, .inl (c120, 4, .inl (upd (upd (upd (fun _ => 0) 0 (-1)) 1 (-1)) 2 (-1)))), (q127, .inl (c127, 2, .inl (fun _ => 0))), (q134, .inl (c134, 2, .inl (fun _ => 0))), (q142, .inl (c142, 8, .inl (fun _ => 0))), (q150, .inl (c150, 8, .inl (fun _ => 0))), (q158, .inl (c158, 8, .inl (fun _ => 0)))] := hD
      refine lv_iinc (v := 3) (lv' := [(3, .int 3), (0, .ref h0), (1, .int slice), (2, .int ceiling)]) hx hb dM_init_227 hl (k := 0) rfl (by decide) (by decide) rfl (fun ls hl => ?_)
      refine lv_goto (tgt := 215) hx hb dM_init_230 (by decide) ?_
      refine lv_iload_n hx hb dM_init_215 rfl (lv_at hl 0 rfl) ?_
      refine lv_iconst (v := 4) hx hb dM_init_216 (by decide) ?_
      refine lv_icmp_ge (tgt := 233) hx hb dM_init_217 (by decide) (fun c9 => absurd c9 (by decide)) (fun _ => ?_)
      refine lv_aload_n hx hb dM_init_220 rfl (lv_at hl 1 rfl) ?_
      refine va_get (D := (dC, dI)) (ci := 3) (v := .ref q120) (C := R_M) (T := T_M) (N := 23) hx hb hts uw_M hown hK hP 0 rfl rfl 17 (by decide) (hts _ (List.mem_cons_of_mem _ wd_348)) (fun _ h9 => h9) rfl dM_init_221 ?_
      refine lv_iload_n hx hb dM_init_224 rfl (lv_at hl 0 rfl) ?_
      refine lv_iconst (v := (-1)) hx hb dM_init_225 (by decide) ?_
      refine va_iast hx hb hK hP hD hS 14 13 rfl rfl (kk_inl (by decide)) dM_init_226 (fun H locs hP hD hS => ?_)
      rw [kk_c3] at hP hD
      have hP : va_P (dC, dI) vwCl [(h0, .inr (3, [.int 1, .int 1, .int 0, .int 0, .ref q17, .ref q25, .ref q33, .ref q41, .ref q49, .ref q57, .ref q65, .ref q73, .ref q81, .ref q89, .ref q97, .ref q105, .ref q113, .ref q120, .ref q127, .ref q134, .ref q142, .ref q150, .ref q158])), (q17, .inl (c17, 8, .inl (fun _ => 0))), (q25, .inl (c25, 8, .inl (fun _ => 0))), (q33, .inl (c33, 8, .inl (fun _ => 0))), (q41, .inl (c41, 8, .inl (fun _ => 0))), (q49, .inl (c49, 8, .inl (fun _ => 0))), (q57, .inl (c57, 8, .inl (fun _ => 0))), (q65, .inl (c65, 8, .inl (fun _ => 0))), (q73, .inl (c73, 8, .inl (fun _ => 0))), (q81, .inl (c81, 8, .inl (fun _ => 0))), (q89, .inl (c89, 8, .inl (fun _ => 0))), (q97, .inl (c97, 8, .inl (fun _ => 0))), (q105, .inl (c105, 8, .inl (fun _ => 0))), (q113, .inl (c113, 8, .inl (fun _ => 0))), (q120, .inl (c120, 4, .inl (upd (upd (upd (upd (fun _ => 0) 0 (-1)) 1 (-1)) 2 (-1)) 3 (-1)))), (q127, .inl (c127, 2, .inl (fun _ => 0))), (q134, .inl (c134, 2, .inl (fun _ => 0))), (q142, .inl (c142, 8, .inl (fun _ => 0))), (q150, .inl (c150, 8, .inl (fun _ => 0))), (q158, .inl (c158, 8, .inl (fun _ => 0)))] H := hP
      have hD : va_D A [(h0, .inr (3, [.int 1, .int 1, .int 0, .int 0, .ref q17, .ref q25, .ref q33, .ref q41, .ref q49, .ref q57, .ref q65, .ref q73, .ref q81, .ref q89, .ref q97, .ref q105, .ref q113, .ref q120, .ref q127, .ref q134, .ref q142, .ref q150, .ref q158])), (q17, .inl (c17, 8, .inl (fun _ => 0))), (q25, .inl (c25, 8, .inl (fun _ => 0))), (q33, .inl (c33, 8, .inl (fun _ => 0))), (q41, .inl (c41, 8, .inl (fun _ => 0))), (q49, .inl (c49, 8, .inl (fun _ => 0))), (q57, .inl (c57, 8, .inl (fun _ => 0))), (q65, .inl (c65, 8, .inl (fun _ => 0))), (q73, .inl (c73, 8, .inl (fun _ => 0))), (q81, .inl (c81, 8, .inl (fun _ => 0))), (q89, .inl (c89, 8, .inl (fun _ => 0))), (q97, .inl (c97, 8, .inl (fun _ => 0))), (q105, .inl (c105, 8, .inl (fun _ => 0))), (q113, .inl (c113, 8, .inl (fun _ => 0))), (q120, .inl (c120, 4, .inl (upd (upd (upd (upd (fun _ => 0) 0 (-1)) 1 (-1)) 2 (-1)) 3 (-1)))), (q127, .inl (c127, 2, .inl (fun _ => 0))), (q134, .inl (c134, 2, .inl (fun _ => 0))), (q142, .inl (c142, 8, .inl (fun _ => 0))), (q150, .inl (c150, 8, .inl (fun _ => 0))), (q158, .inl (c158, 8, .inl (fun _ => 0)))] := hD
      refine lv_iinc (v := 4) (lv' := [(3, .int 4), (0, .ref h0), (1, .int slice), (2, .int ceiling)]) hx hb dM_init_227 hl (k := 0) rfl (by decide) (by decide) rfl (fun ls hl => ?_)
      refine lv_goto (tgt := 215) hx hb dM_init_230 (by decide) ?_
      refine lv_iload_n hx hb dM_init_215 rfl (lv_at hl 0 rfl) ?_
      refine lv_iconst (v := 4) hx hb dM_init_216 (by decide) ?_
      refine lv_icmp_ge (tgt := 233) hx hb dM_init_217 (by decide) (fun _ => ?_) (fun c9 => absurd (by decide) c9)
      subst hf
      have hP9 := hP.sub (ws' := km_w (fun k => match k with | 0 => h0 | 1 => q17 | 2 => q25 | 3 => q33 | 4 => q41 | 5 => q49 | 6 => q57 | 7 => q65 | 8 => q73 | 9 => q81 | 10 => q89 | 11 => q97 | 12 => q105 | 13 => q113 | 14 => q120 | 15 => q127 | 16 => q134 | 17 => q142 | 18 => q150 | _ => q158) (fun k => match k with | 1 => c17 | 2 => c25 | 3 => c33 | 4 => c41 | 5 => c49 | 6 => c57 | 7 => c65 | 8 => c73 | 9 => c81 | 10 => c89 | 11 => c97 | 12 => c105 | 13 => c113 | 14 => c120 | 15 => c127 | 16 => c134 | 17 => c142 | 18 => c150 | _ => c158) (km_0 1 1)) [0, 1, 2, 3, 4, 5, 6, 7, 8, 9, 10, 11, 12, 13, 14, 15, 16, 17, 18, 19] rfl
      have hD9 := hD.sub (ws' := km_w (fun k => match k with | 0 => h0 | 1 => q17 | 2 => q25 | 3 => q33 | 4 => q41 | 5 => q49 | 6 => q57 | 7 => q65 | 8 => q73 | 9 => q81 | 10 => q89 | 11 => q97 | 12 => q105 | 13 => q113 | 14 => q120 | 15 => q127 | 16 => q134 | 17 => q142 | 18 => q150 | _ => q158) (fun k => match k with | 1 => c17 | 2 => c25 | 3 => c33 | 4 => c41 | 5 => c49 | 6 => c57 | 7 => c65 | 8 => c73 | 9 => c81 | 10 => c89 | 11 => c97 | 12 => c105 | 13 => c113 | 14 => c120 | 15 => c127 | 16 => c134 | 17 => c142 | 18 => c150 | _ => c158) (km_0 1 1)) [0, 1, 2, 3, 4, 5, 6, 7, 8, 9, 10, 11, 12, 13, 14, 15, 16, 17, 18, 19] (by decide) rfl
      have hK9 := hK.sub (tys' := km_t (fun k => match k with | 1 => c17 | 2 => c25 | 3 => c33 | 4 => c41 | 5 => c49 | 6 => c57 | 7 => c65 | 8 => c73 | 9 => c81 | 10 => c89 | 11 => c97 | 12 => c105 | 13 => c113 | 14 => c120 | 15 => c127 | 16 => c134 | 17 => c142 | 18 => c150 | _ => c158)) [0, 1, 2, 3, 4, 5, 6, 7, 8, 9, 10, 11, 12, 13, 14, 15, 16, 17, 18] rfl
      exact W.vret hx hb hr (fun t ht hW => ⟨⟨(fun k => match k with | 0 => h0 | 1 => q17 | 2 => q25 | 3 => q33 | 4 => q41 | 5 => q49 | 6 => q57 | 7 => q65 | 8 => q73 | 9 => q81 | 10 => q89 | 11 => q97 | 12 => q105 | 13 => q113 | 14 => q120 | 15 => q127 | 16 => q134 | 17 => q142 | 18 => q150 | _ => q158, fun k => match k with | 1 => c17 | 2 => c25 | 3 => c33 | 4 => c41 | 5 => c49 | 6 => c57 | 7 => c65 | 8 => c73 | 9 => c81 | 10 => c89 | 11 => c97 | 12 => c105 | 13 => c113 | 14 => c120 | 15 => c127 | 16 => c134 | 17 => c142 | 18 => c150 | _ => c158), rfl, rfl, by rw [ht]; exact hP9, va_K.moved hW.alike hK9, hD9⟩, hS.F ht⟩) hS.2.2 dM_init_233 hlocks
end
