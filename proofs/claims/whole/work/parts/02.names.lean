/-! names of classes, fields, methods -/
def kn_T : List Cond := lw_tbl.filter goodWord
theorem kn_m {w : Cond} (h : w ∈ lw_tbl) (g : goodWord w = true) : w ∈ kn_T := List.mem_filter.mpr ⟨h, g⟩
def R_Q : String := "PriorityKernel$MessageQueue"
def T_Q : u_T := fun k => match k with
  | 0 => ("PriorityKernel$MessageQueue", "ranks", "[I", true)
  | 1 => ("PriorityKernel$MessageQueue", "contents", "[I", true)
  | _ => ("PriorityKernel$MessageQueue", "size", "I", false)
def ty_Q : Nat → FieldType := fun k => match k with
  | 0 => .array .int
  | 1 => .array .int
  | _ => .int
theorem nm_Q : ∀ a, a < 3 → ∀ b, b < 3 → a ≠ b → (T_Q a).2.1 ≠ (T_Q b).2.1 := by decide +kernel
theorem ty_Q_ok : ∀ k, k < 3 → parseFieldDescriptor (T_Q k).2.2.1 = some (ty_Q k) := by decide +kernel
theorem ux_Q : ∀ w ∈ u_ws R_Q T_Q 3, w ∈ lw_tbl := by decide +kernel
theorem uw_Q {c0 : Cond} : ∀ w ∈ u_ws R_Q T_Q 3, w ∈ c0 :: kn_T := fun w h => List.mem_cons_of_mem _ (kn_m (ux_Q w h) ((by decide +kernel : ∀ w ∈ u_ws R_Q T_Q 3, goodWord w = true) w h))
def R_T : String := "PriorityKernel$Task"
def T_T : u_T := fun k => match k with
  | 0 => ("PriorityKernel$Task", "number", "I", true)
  | 1 => ("PriorityKernel$Task", "state", "I", false)
  | 2 => ("PriorityKernel$Task", "base", "I", false)
  | 3 => ("PriorityKernel$Task", "effective", "I", false)
  | 4 => ("PriorityKernel$Task", "sliced", "Z", false)
  | 5 => ("PriorityKernel$Task", "used", "I", false)
  | 6 => ("PriorityKernel$Task", "result", "I", false)
  | 7 => ("PriorityKernel$Task", "since", "J", false)
  | 8 => ("PriorityKernel$Task", "waitsOn", "I", false)
  | 9 => ("PriorityKernel$Task", "deadline", "J", false)
  | 10 => ("PriorityKernel$Task", "mutexInMind", "I", false)
  | 11 => ("PriorityKernel$Task", "resultWhenOwning", "I", false)
  | 12 => ("PriorityKernel$Task", "rank", "I", false)
  | _ => ("PriorityKernel$Task", "value", "I", false)
def ty_T : Nat → FieldType := fun k => match k with
  | 0 => .int
  | 1 => .int
  | 2 => .int
  | 3 => .int
  | 4 => .boolean
  | 5 => .int
  | 6 => .int
  | 7 => .long
  | 8 => .int
  | 9 => .long
  | 10 => .int
  | 11 => .int
  | 12 => .int
  | _ => .int
theorem nm_T : ∀ a, a < 14 → ∀ b, b < 14 → a ≠ b → (T_T a).2.1 ≠ (T_T b).2.1 := by decide +kernel
theorem ty_T_ok : ∀ k, k < 14 → parseFieldDescriptor (T_T k).2.2.1 = some (ty_T k) := by decide +kernel
theorem ux_T : ∀ w ∈ u_ws R_T T_T 14, w ∈ lw_tbl := by decide +kernel
theorem uw_T {c0 : Cond} : ∀ w ∈ u_ws R_T T_T 14, w ∈ c0 :: kn_T := fun w h => List.mem_cons_of_mem _ (kn_m (ux_T w h) ((by decide +kernel : ∀ w ∈ u_ws R_T T_T 14, goodWord w = true) w h))
def R_X : String := "PriorityKernel"
def T_X : u_T := fun k => match k with
  | 0 => ("PriorityKernel", "slice", "I", true)
  | 1 => ("PriorityKernel", "ceiling", "I", true)
  | 2 => ("PriorityKernel", "tasks", "[LPriorityKernel$Task;", true)
  | 3 => ("PriorityKernel", "owners", "[I", true)
  | 4 => ("PriorityKernel", "values", "[I", true)
  | 5 => ("PriorityKernel", "queues", "[LPriorityKernel$MessageQueue;", true)
  | 6 => ("PriorityKernel", "time", "I", false)
  | _ => ("PriorityKernel", "lastMoment", "J", false)
def ty_X : Nat → FieldType := fun k => match k with
  | 0 => .int
  | 1 => .int
  | 2 => .array (.object "PriorityKernel$Task")
  | 3 => .array .int
  | 4 => .array .int
  | 5 => .array (.object "PriorityKernel$MessageQueue")
  | 6 => .int
  | _ => .long
theorem nm_X : ∀ a, a < 8 → ∀ b, b < 8 → a ≠ b → (T_X a).2.1 ≠ (T_X b).2.1 := by decide +kernel
theorem ty_X_ok : ∀ k, k < 8 → parseFieldDescriptor (T_X k).2.2.1 = some (ty_X k) := by decide +kernel
theorem ux_X : ∀ w ∈ u_ws R_X T_X 8, w ∈ lw_tbl := by decide +kernel
theorem uw_X {c0 : Cond} : ∀ w ∈ u_ws R_X T_X 8, w ∈ c0 :: kn_T := fun w h => List.mem_cons_of_mem _ (kn_m (ux_X w h) ((by decide +kernel : ∀ w ∈ u_ws R_X T_X 8, goodWord w = true) w h))
def R_M : String := "PriorityKernelModel"
def T_M : u_T := fun k => match k with
  | 0 => ("PriorityKernelModel", "slice", "I", true)
  | 1 => ("PriorityKernelModel", "ceiling", "I", true)
  | 2 => ("PriorityKernelModel", "time", "I", false)
  | 3 => ("PriorityKernelModel", "stamps", "I", false)
  | 4 => ("PriorityKernelModel", "state", "[I", true)
  | 5 => ("PriorityKernelModel", "base", "[I", true)
  | 6 => ("PriorityKernelModel", "stamp", "[I", true)
  | 7 => ("PriorityKernelModel", "used", "[I", true)
  | 8 => ("PriorityKernelModel", "on", "[I", true)
  | 9 => ("PriorityKernelModel", "since", "[I", true)
  | 10 => ("PriorityKernelModel", "deadline", "[I", true)
  | 11 => ("PriorityKernelModel", "result", "[I", true)
  | 12 => ("PriorityKernelModel", "mind", "[I", true)
  | 13 => ("PriorityKernelModel", "rank", "[I", true)
  | 14 => ("PriorityKernelModel", "value", "[I", true)
  | 15 => ("PriorityKernelModel", "sliced", "[Z", true)
  | 16 => ("PriorityKernelModel", "retakes", "[Z", true)
  | 17 => ("PriorityKernelModel", "owns", "[I", true)
  | 18 => ("PriorityKernelModel", "count", "[I", true)
  | 19 => ("PriorityKernelModel", "messages", "[I", true)
  | 20 => ("PriorityKernelModel", "messageRank", "[I", true)
  | 21 => ("PriorityKernelModel", "messageValue", "[I", true)
  | _ => ("PriorityKernelModel", "urgent", "[I", true)
def ty_M : Nat → FieldType := fun k => match k with
  | 0 => .int
  | 1 => .int
  | 2 => .int
  | 3 => .int
  | 4 => .array .int
  | 5 => .array .int
  | 6 => .array .int
  | 7 => .array .int
  | 8 => .array .int
  | 9 => .array .int
  | 10 => .array .int
  | 11 => .array .int
  | 12 => .array .int
  | 13 => .array .int
  | 14 => .array .int
  | 15 => .array .boolean
  | 16 => .array .boolean
  | 17 => .array .int
  | 18 => .array .int
  | 19 => .array .int
  | 20 => .array .int
  | 21 => .array .int
  | _ => .array .int
theorem nm_M : ∀ a, a < 23 → ∀ b, b < 23 → a ≠ b → (T_M a).2.1 ≠ (T_M b).2.1 := by decide +kernel
theorem ty_M_ok : ∀ k, k < 23 → parseFieldDescriptor (T_M k).2.2.1 = some (ty_M k) := by decide +kernel
theorem ux_M : ∀ w ∈ u_ws R_M T_M 23, w ∈ lw_tbl := by decide +kernel
theorem uw_M {c0 : Cond} : ∀ w ∈ u_ws R_M T_M 23, w ∈ c0 :: kn_T := fun w h => List.mem_cons_of_mem _ (kn_m (ux_M w h) ((by decide +kernel : ∀ w ∈ u_ws R_M T_M 23, goodWord w = true) w h))
abbrev vwCl : List vw_C := [(R_Q, T_Q, 3), (R_T, T_T, 14), (R_X, T_X, 8), (R_M, T_M, 23)]
abbrev b_X_init : ByteArray := prog_1_method_1_code
def y_X_init : MethodName := ⟨R_X, "<init>", "(II)V"⟩
def ws_X_init : List Cond := .code y_X_init b_X_init 4 none :: kn_T
abbrev b_T_init : ByteArray := prog_3_method_1_code
def y_T_init : MethodName := ⟨R_T, "<init>", "(I)V"⟩
def ws_T_init : List Cond := .code y_T_init b_T_init 2 none :: kn_T
abbrev b_Q_init : ByteArray := prog_2_method_1_code
def y_Q_init : MethodName := ⟨R_Q, "<init>", "()V"⟩
def ws_Q_init : List Cond := .code y_Q_init b_Q_init 1 none :: kn_T
abbrev b_X_spawn : ByteArray := prog_1_method_2_code
def y_X_spawn : MethodName := ⟨R_X, "spawn", "(IZ)I"⟩
def ws_X_spawn : List Cond := .code y_X_spawn b_X_spawn 4 (some .int) :: kn_T
abbrev b_X_isPriority : ByteArray := prog_1_method_22_code
def y_X_isPriority : MethodName := ⟨R_X, "isPriority", "(I)Z"⟩
def ws_X_isPriority : List Cond := .code y_X_isPriority b_X_isPriority 1 (some .boolean) :: kn_T
abbrev b_X_leastFree : ByteArray := prog_1_method_25_code
def y_X_leastFree : MethodName := ⟨R_X, "leastFree", "()LPriorityKernel$Task;"⟩
def ws_X_leastFree : List Cond := .code y_X_leastFree b_X_leastFree 5 (some (.object "PriorityKernel$Task")) :: kn_T
abbrev b_X_makeReady : ByteArray := prog_1_method_35_code
def y_X_makeReady : MethodName := ⟨R_X, "makeReady", "(LPriorityKernel$Task;I)V"⟩
def ws_X_makeReady : List Cond := .code y_X_makeReady b_X_makeReady 3 none :: kn_T
abbrev b_X_priority : ByteArray := prog_1_method_3_code
def y_X_priority : MethodName := ⟨R_X, "priority", "(II)I"⟩
def ws_X_priority : List Cond := .code y_X_priority b_X_priority 4 (some .int) :: kn_T
abbrev b_X_isBelow : ByteArray := prog_1_method_21_code
def y_X_isBelow : MethodName := ⟨R_X, "isBelow", "(II)Z"⟩
def ws_X_isBelow : List Cond := .code y_X_isBelow b_X_isBelow 2 (some .boolean) :: kn_T
abbrev b_X_pass : ByteArray := prog_1_method_4_code
def y_X_pass : MethodName := ⟨R_X, "pass", "()I"⟩
def ws_X_pass : List Cond := .code y_X_pass b_X_pass 2 (some .int) :: kn_T
abbrev b_X_runner : ByteArray := prog_1_method_28_code
def y_X_runner : MethodName := ⟨R_X, "runner", "()LPriorityKernel$Task;"⟩
def ws_X_runner : List Cond := .code y_X_runner b_X_runner 1 (some (.object "PriorityKernel$Task")) :: kn_T
abbrev b_X_foremost : ByteArray := prog_1_method_30_code
def y_X_foremost : MethodName := ⟨R_X, "foremost", "(II)LPriorityKernel$Task;"⟩
def ws_X_foremost : List Cond := .code y_X_foremost b_X_foremost 8 (some (.object "PriorityKernel$Task")) :: kn_T
abbrev b_X_workOutEffective : ByteArray := prog_1_method_31_code
def y_X_workOutEffective : MethodName := ⟨R_X, "workOutEffective", "()V"⟩
def ws_X_workOutEffective : List Cond := .code y_X_workOutEffective b_X_workOutEffective 5 none :: kn_T
abbrev b_X_inheritOnce : ByteArray := prog_1_method_32_code
def y_X_inheritOnce : MethodName := ⟨R_X, "inheritOnce", "()Z"⟩
def ws_X_inheritOnce : List Cond := .code y_X_inheritOnce b_X_inheritOnce 7 (some .boolean) :: kn_T
abbrev b_X_heirOf : ByteArray := prog_1_method_33_code
def y_X_heirOf : MethodName := ⟨R_X, "heirOf", "(LPriorityKernel$Task;)I"⟩
def ws_X_heirOf : List Cond := .code y_X_heirOf b_X_heirOf 3 (some .int) :: kn_T
abbrev b_T_isAheadOf : ByteArray := prog_3_method_2_code
def y_T_isAheadOf : MethodName := ⟨R_T, "isAheadOf", "(LPriorityKernel$Task;)Z"⟩
def ws_T_isAheadOf : List Cond := .code y_T_isAheadOf b_T_isAheadOf 2 (some .boolean) :: kn_T
abbrev b_X_startTurn : ByteArray := prog_1_method_34_code
def y_X_startTurn : MethodName := ⟨R_X, "startTurn", "(LPriorityKernel$Task;)V"⟩
def ws_X_startTurn : List Cond := .code y_X_startTurn b_X_startTurn 2 none :: kn_T
abbrev b_X_lock : ByteArray := prog_1_method_5_code
def y_X_lock : MethodName := ⟨R_X, "lock", "(I)I"⟩
def ws_X_lock : List Cond := .code y_X_lock b_X_lock 3 (some .int) :: kn_T
abbrev b_X_take : ByteArray := prog_1_method_37_code
def y_X_take : MethodName := ⟨R_X, "take", "(LPriorityKernel$Task;I)V"⟩
def ws_X_take : List Cond := .code y_X_take b_X_take 3 none :: kn_T
abbrev b_X_makeOwner : ByteArray := prog_1_method_39_code
def y_X_makeOwner : MethodName := ⟨R_X, "makeOwner", "(LPriorityKernel$Task;I)V"⟩
def ws_X_makeOwner : List Cond := .code y_X_makeOwner b_X_makeOwner 3 none :: kn_T
abbrev b_X_block : ByteArray := prog_1_method_36_code
def y_X_block : MethodName := ⟨R_X, "block", "(LPriorityKernel$Task;IJ)V"⟩
def ws_X_block : List Cond := .code y_X_block b_X_block 5 none :: kn_T
abbrev b_X_unlock : ByteArray := prog_1_method_6_code
def y_X_unlock : MethodName := ⟨R_X, "unlock", "(I)I"⟩
def ws_X_unlock : List Cond := .code y_X_unlock b_X_unlock 3 (some .int) :: kn_T
abbrev b_X_give : ByteArray := prog_1_method_38_code
def y_X_give : MethodName := ⟨R_X, "give", "(I)V"⟩
def ws_X_give : List Cond := .code y_X_give b_X_give 3 none :: kn_T
abbrev b_X_firstWaiter : ByteArray := prog_1_method_29_code
def y_X_firstWaiter : MethodName := ⟨R_X, "firstWaiter", "(I)LPriorityKernel$Task;"⟩
def ws_X_firstWaiter : List Cond := .code y_X_firstWaiter b_X_firstWaiter 2 (some (.object "PriorityKernel$Task")) :: kn_T
abbrev b_X_await : ByteArray := prog_1_method_7_code
def y_X_await : MethodName := ⟨R_X, "await", "(III)I"⟩
def ws_X_await : List Cond := .code y_X_await b_X_await 5 (some .int) :: kn_T
abbrev b_X_isTimeout : ByteArray := prog_1_method_23_code
def y_X_isTimeout : MethodName := ⟨R_X, "isTimeout", "(I)Z"⟩
def ws_X_isTimeout : List Cond := .code y_X_isTimeout b_X_isTimeout 1 (some .boolean) :: kn_T
abbrev b_X_deadlineAfter : ByteArray := prog_1_method_24_code
def y_X_deadlineAfter : MethodName := ⟨R_X, "deadlineAfter", "(I)J"⟩
def ws_X_deadlineAfter : List Cond := .code y_X_deadlineAfter b_X_deadlineAfter 2 (some .long) :: kn_T
abbrev b_X_signal : ByteArray := prog_1_method_8_code
def y_X_signal : MethodName := ⟨R_X, "signal", "(IZ)I"⟩
def ws_X_signal : List Cond := .code y_X_signal b_X_signal 7 (some .int) :: kn_T
abbrev b_X_endAwait : ByteArray := prog_1_method_40_code
def y_X_endAwait : MethodName := ⟨R_X, "endAwait", "(LPriorityKernel$Task;I)V"⟩
def ws_X_endAwait : List Cond := .code y_X_endAwait b_X_endAwait 3 none :: kn_T
abbrev b_X_down : ByteArray := prog_1_method_9_code
def y_X_down : MethodName := ⟨R_X, "down", "(II)I"⟩
def ws_X_down : List Cond := .code y_X_down b_X_down 4 (some .int) :: kn_T
abbrev b_X_post : ByteArray := prog_1_method_10_code
def y_X_post : MethodName := ⟨R_X, "post", "(I)I"⟩
def ws_X_post : List Cond := .code y_X_post b_X_post 3 (some .int) :: kn_T
abbrev b_X_send : ByteArray := prog_1_method_11_code
def y_X_send : MethodName := ⟨R_X, "send", "(III)I"⟩
def ws_X_send : List Cond := .code y_X_send b_X_send 5 (some .int) :: kn_T
abbrev b_Q_isFull : ByteArray := prog_2_method_3_code
def y_Q_isFull : MethodName := ⟨R_Q, "isFull", "()Z"⟩
def ws_Q_isFull : List Cond := .code y_Q_isFull b_Q_isFull 1 (some .boolean) :: kn_T
abbrev b_X_arrive : ByteArray := prog_1_method_41_code
def y_X_arrive : MethodName := ⟨R_X, "arrive", "(III)V"⟩
def ws_X_arrive : List Cond := .code y_X_arrive b_X_arrive 5 none :: kn_T
abbrev b_Q_insert : ByteArray := prog_2_method_4_code
def y_Q_insert : MethodName := ⟨R_Q, "insert", "(II)V"⟩
def ws_Q_insert : List Cond := .code y_Q_insert b_Q_insert 4 none :: kn_T
abbrev b_X_receive : ByteArray := prog_1_method_12_code
def y_X_receive : MethodName := ⟨R_X, "receive", "(I)I"⟩
def ws_X_receive : List Cond := .code y_X_receive b_X_receive 4 (some .int) :: kn_T
abbrev b_Q_isEmpty : ByteArray := prog_2_method_2_code
def y_Q_isEmpty : MethodName := ⟨R_Q, "isEmpty", "()Z"⟩
def ws_Q_isEmpty : List Cond := .code y_Q_isEmpty b_Q_isEmpty 1 (some .boolean) :: kn_T
abbrev b_Q_removeFirst : ByteArray := prog_2_method_5_code
def y_Q_removeFirst : MethodName := ⟨R_Q, "removeFirst", "()I"⟩
def ws_Q_removeFirst : List Cond := .code y_Q_removeFirst b_Q_removeFirst 3 (some .int) :: kn_T
abbrev b_X_sleep : ByteArray := prog_1_method_13_code
def y_X_sleep : MethodName := ⟨R_X, "sleep", "(I)I"⟩
def ws_X_sleep : List Cond := .code y_X_sleep b_X_sleep 3 (some .int) :: kn_T
abbrev b_X_join : ByteArray := prog_1_method_14_code
def y_X_join : MethodName := ⟨R_X, "join", "(I)I"⟩
def ws_X_join : List Cond := .code y_X_join b_X_join 4 (some .int) :: kn_T
abbrev b_X_exit : ByteArray := prog_1_method_15_code
def y_X_exit : MethodName := ⟨R_X, "exit", "(I)I"⟩
def ws_X_exit : List Cond := .code y_X_exit b_X_exit 4 (some .int) :: kn_T
abbrev b_X_ownsAny : ByteArray := prog_1_method_27_code
def y_X_ownsAny : MethodName := ⟨R_X, "ownsAny", "(LPriorityKernel$Task;)Z"⟩
def ws_X_ownsAny : List Cond := .code y_X_ownsAny b_X_ownsAny 6 (some .boolean) :: kn_T
abbrev b_X_tick : ByteArray := prog_1_method_16_code
def y_X_tick : MethodName := ⟨R_X, "tick", "(I)I"⟩
def ws_X_tick : List Cond := .code y_X_tick b_X_tick 3 (some .int) :: kn_T
abbrev b_X_tickOnce : ByteArray := prog_1_method_42_code
def y_X_tickOnce : MethodName := ⟨R_X, "tickOnce", "()V"⟩
def ws_X_tickOnce : List Cond := .code y_X_tickOnce b_X_tickOnce 6 none :: kn_T
abbrev b_X_useTick : ByteArray := prog_1_method_43_code
def y_X_useTick : MethodName := ⟨R_X, "useTick", "(LPriorityKernel$Task;)V"⟩
def ws_X_useTick : List Cond := .code y_X_useTick b_X_useTick 2 none :: kn_T
abbrev b_X_endWait : ByteArray := prog_1_method_44_code
def y_X_endWait : MethodName := ⟨R_X, "endWait", "(LPriorityKernel$Task;)V"⟩
def ws_X_endWait : List Cond := .code y_X_endWait b_X_endWait 2 none :: kn_T
abbrev b_X_running : ByteArray := prog_1_method_17_code
def y_X_running : MethodName := ⟨R_X, "running", "()I"⟩
def ws_X_running : List Cond := .code y_X_running b_X_running 2 (some .int) :: kn_T
abbrev b_X_tell : ByteArray := prog_1_method_18_code
def y_X_tell : MethodName := ⟨R_X, "tell", "(II)J"⟩
def ws_X_tell : List Cond := .code y_X_tell b_X_tell 4 (some .long) :: kn_T
abbrev b_X_owner : ByteArray := prog_1_method_19_code
def y_X_owner : MethodName := ⟨R_X, "owner", "(I)I"⟩
def ws_X_owner : List Cond := .code y_X_owner b_X_owner 2 (some .int) :: kn_T
abbrev b_X_count : ByteArray := prog_1_method_20_code
def y_X_count : MethodName := ⟨R_X, "count", "(I)I"⟩
def ws_X_count : List Cond := .code y_X_count b_X_count 2 (some .int) :: kn_T
abbrev b_X_readyThreads : ByteArray := prog_1_method_26_code
def y_X_readyThreads : MethodName := ⟨R_X, "readyThreads", "()I"⟩
def ws_X_readyThreads : List Cond := .code y_X_readyThreads b_X_readyThreads 6 (some .int) :: kn_T
abbrev b_L_cell : ByteArray := method_2_code
def y_L_cell : MethodName := ⟨"PriorityKernelLaw", "cell", "([II)I"⟩
def ws_L_cell : List Cond := .code y_L_cell b_L_cell 2 (some .int) :: kn_T
abbrev b_M_init : ByteArray := prog_5_method_1_code
def y_M_init : MethodName := ⟨R_M, "<init>", "(II)V"⟩
def ws_M_init : List Cond := .code y_M_init b_M_init 4 none :: kn_T
abbrev b_M_running : ByteArray := prog_5_method_7_code
def y_M_running : MethodName := ⟨R_M, "running", "()I"⟩
def ws_M_running : List Cond := .code y_M_running b_M_running 3 (some .int) :: kn_T
abbrev b_M_weigh : ByteArray := prog_5_method_6_code
def y_M_weigh : MethodName := ⟨R_M, "weigh", "()V"⟩
def ws_M_weigh : List Cond := .code y_M_weigh b_M_weigh 4 none :: kn_T
abbrev b_M_spawn : ByteArray := prog_5_method_11_code
def y_M_spawn : MethodName := ⟨R_M, "spawn", "(IZ)I"⟩
def ws_M_spawn : List Cond := .code y_M_spawn b_M_spawn 4 (some .int) :: kn_T
abbrev b_M_ready : ByteArray := prog_5_method_4_code
def y_M_ready : MethodName := ⟨R_M, "ready", "(I)V"⟩
def ws_M_ready : List Cond := .code y_M_ready b_M_ready 2 none :: kn_T
abbrev b_M_newStamp : ByteArray := prog_5_method_3_code
def y_M_newStamp : MethodName := ⟨R_M, "newStamp", "()I"⟩
def ws_M_newStamp : List Cond := .code y_M_newStamp b_M_newStamp 1 (some .int) :: kn_T
abbrev b_M_priority : ByteArray := prog_5_method_12_code
def y_M_priority : MethodName := ⟨R_M, "priority", "(II)I"⟩
def ws_M_priority : List Cond := .code y_M_priority b_M_priority 3 (some .int) :: kn_T
abbrev b_M_out : ByteArray := prog_5_method_2_code
def y_M_out : MethodName := ⟨R_M, "out", "(II)Z"⟩
def ws_M_out : List Cond := .code y_M_out b_M_out 3 (some .boolean) :: kn_T
abbrev b_M_pass : ByteArray := prog_5_method_13_code
def y_M_pass : MethodName := ⟨R_M, "pass", "()I"⟩
def ws_M_pass : List Cond := .code y_M_pass b_M_pass 2 (some .int) :: kn_T
abbrev b_M_lock : ByteArray := prog_5_method_14_code
def y_M_lock : MethodName := ⟨R_M, "lock", "(I)I"⟩
def ws_M_lock : List Cond := .code y_M_lock b_M_lock 3 (some .int) :: kn_T
abbrev b_M_block : ByteArray := prog_5_method_5_code
def y_M_block : MethodName := ⟨R_M, "block", "(III)V"⟩
def ws_M_block : List Cond := .code y_M_block b_M_block 4 none :: kn_T
abbrev b_M_unlock : ByteArray := prog_5_method_15_code
def y_M_unlock : MethodName := ⟨R_M, "unlock", "(I)I"⟩
def ws_M_unlock : List Cond := .code y_M_unlock b_M_unlock 3 (some .int) :: kn_T
abbrev b_M_give : ByteArray := prog_5_method_9_code
def y_M_give : MethodName := ⟨R_M, "give", "(I)V"⟩
def ws_M_give : List Cond := .code y_M_give b_M_give 3 none :: kn_T
abbrev b_M_firstWaiter : ByteArray := prog_5_method_8_code
def y_M_firstWaiter : MethodName := ⟨R_M, "firstWaiter", "(I)I"⟩
def ws_M_firstWaiter : List Cond := .code y_M_firstWaiter b_M_firstWaiter 4 (some .int) :: kn_T
abbrev b_M_await : ByteArray := prog_5_method_16_code
def y_M_await : MethodName := ⟨R_M, "await", "(III)I"⟩
def ws_M_await : List Cond := .code y_M_await b_M_await 5 (some .int) :: kn_T
abbrev b_M_signal : ByteArray := prog_5_method_17_code
def y_M_signal : MethodName := ⟨R_M, "signal", "(IZ)I"⟩
def ws_M_signal : List Cond := .code y_M_signal b_M_signal 6 (some .int) :: kn_T
abbrev b_M_retake : ByteArray := prog_5_method_10_code
def y_M_retake : MethodName := ⟨R_M, "retake", "(II)V"⟩
def ws_M_retake : List Cond := .code y_M_retake b_M_retake 4 none :: kn_T
abbrev b_M_down : ByteArray := prog_5_method_18_code
def y_M_down : MethodName := ⟨R_M, "down", "(II)I"⟩
def ws_M_down : List Cond := .code y_M_down b_M_down 4 (some .int) :: kn_T
abbrev b_M_post : ByteArray := prog_5_method_19_code
def y_M_post : MethodName := ⟨R_M, "post", "(I)I"⟩
def ws_M_post : List Cond := .code y_M_post b_M_post 3 (some .int) :: kn_T
abbrev b_M_send : ByteArray := prog_5_method_21_code
def y_M_send : MethodName := ⟨R_M, "send", "(III)I"⟩
def ws_M_send : List Cond := .code y_M_send b_M_send 6 (some .int) :: kn_T
abbrev b_M_comeIn : ByteArray := prog_5_method_20_code
def y_M_comeIn : MethodName := ⟨R_M, "comeIn", "(III)V"⟩
def ws_M_comeIn : List Cond := .code y_M_comeIn b_M_comeIn 5 none :: kn_T
abbrev b_M_receive : ByteArray := prog_5_method_22_code
def y_M_receive : MethodName := ⟨R_M, "receive", "(I)I"⟩
def ws_M_receive : List Cond := .code y_M_receive b_M_receive 4 (some .int) :: kn_T
abbrev b_M_sleep : ByteArray := prog_5_method_23_code
def y_M_sleep : MethodName := ⟨R_M, "sleep", "(I)I"⟩
def ws_M_sleep : List Cond := .code y_M_sleep b_M_sleep 3 (some .int) :: kn_T
abbrev b_M_join : ByteArray := prog_5_method_24_code
def y_M_join : MethodName := ⟨R_M, "join", "(I)I"⟩
def ws_M_join : List Cond := .code y_M_join b_M_join 3 (some .int) :: kn_T
abbrev b_M_exit : ByteArray := prog_5_method_25_code
def y_M_exit : MethodName := ⟨R_M, "exit", "(I)I"⟩
def ws_M_exit : List Cond := .code y_M_exit b_M_exit 4 (some .int) :: kn_T
abbrev b_M_tick : ByteArray := prog_5_method_27_code
def y_M_tick : MethodName := ⟨R_M, "tick", "(I)I"⟩
def ws_M_tick : List Cond := .code y_M_tick b_M_tick 5 (some .int) :: kn_T
abbrev b_M_deadlineComes : ByteArray := prog_5_method_26_code
def y_M_deadlineComes : MethodName := ⟨R_M, "deadlineComes", "(I)V"⟩
def ws_M_deadlineComes : List Cond := .code y_M_deadlineComes b_M_deadlineComes 2 none :: kn_T
abbrev b_M_tell : ByteArray := prog_5_method_28_code
def y_M_tell : MethodName := ⟨R_M, "tell", "(II)J"⟩
def ws_M_tell : List Cond := .code y_M_tell b_M_tell 3 (some .long) :: kn_T
abbrev b_M_owner : ByteArray := prog_5_method_29_code
def y_M_owner : MethodName := ⟨R_M, "owner", "(I)I"⟩
def ws_M_owner : List Cond := .code y_M_owner b_M_owner 2 (some .int) :: kn_T
abbrev b_M_count : ByteArray := prog_5_method_30_code
def y_M_count : MethodName := ⟨R_M, "count", "(I)I"⟩
def ws_M_count : List Cond := .code y_M_count b_M_count 4 (some .int) :: kn_T
theorem kn_1 {w : Cond} (h : w ∈ kn_T) : w ∈ kn_T ∧ ((w.onTables && w.keeps) = true ∨ ∃ ty, w = .arrayClass ty) := ⟨h, good_of_word (List.mem_filter.mp h).2⟩
theorem kn_I {c0 c1 : Cond} (h1 : c1 ∈ kn_T) : GoodIn (c0 :: kn_T) (c1 :: kn_T) := fun w hw => by
  rcases List.mem_cons.mp hw with rfl | h
  · exact ⟨List.mem_cons_of_mem _ h1, (kn_1 h1).2⟩
  · exact ⟨List.mem_cons_of_mem _ h, (kn_1 h).2⟩
theorem kn_V {c0 c1 : Cond} {own C : String} {idx : Nat} {y : MethodName} (h1 : Cond.methodLink own idx y ∈ kn_T) (h2 : Cond.instanceMethod y ∈ kn_T) (h3 : Cond.selects C y y ∈ kn_T) (h4 : Cond.initialized C ∈ kn_T) (h5 : c1 ∈ kn_T) : GoodIn (c0 :: kn_T) (wsV own idx C y (c1 :: kn_T)) := fun w hw => by
  have g : ∀ v ∈ kn_T, v ∈ c0 :: kn_T ∧ ((v.onTables && v.keeps) = true ∨ ∃ ty, v = .arrayClass ty) := fun v hv => ⟨List.mem_cons_of_mem _ hv, (kn_1 hv).2⟩
  rcases List.mem_append.mp hw with h | h
  · simp only [List.mem_cons, List.not_mem_nil, or_false] at h
    rcases h with rfl | rfl | rfl | rfl
    · exact g _ h1
    · exact g _ h2
    · exact g _ h3
    · exact g _ h4
  · rcases List.mem_cons.mp h with rfl | h
    · exact g _ h5
    · exact g _ h
theorem kn_S {c0 c1 : Cond} {own : String} {idx : Nat} {y : MethodName} (h1 : Cond.methodLink own idx y ∈ kn_T) (h2 : Cond.static y ∈ kn_T) (h4 : Cond.initialized own ∈ kn_T) (h5 : c1 ∈ kn_T) : GoodIn (c0 :: kn_T) (wsS own idx y (c1 :: kn_T)) := fun w hw => by
  have g : ∀ v ∈ kn_T, v ∈ c0 :: kn_T ∧ ((v.onTables && v.keeps) = true ∨ ∃ ty, v = .arrayClass ty) := fun v hv => ⟨List.mem_cons_of_mem _ hv, (kn_1 hv).2⟩
  rcases List.mem_append.mp hw with h | h
  · simp only [List.mem_cons, List.not_mem_nil, or_false] at h
    rcases h with rfl | rfl | rfl
    · exact g _ h1
    · exact g _ h2
    · exact g _ h4
  · rcases List.mem_cons.mp h with rfl | h
    · exact g _ h5
    · exact g _ h
