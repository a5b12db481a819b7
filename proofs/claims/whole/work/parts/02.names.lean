/-! NAMES, by program: classes S YardActors, A Actor, C Channel, Y Yard, M the reference, L the law -/
def R_A : String := "YardActors$Actor"
def F_A : u_T := fun k => match k with
  | 0 => ("YardActors$Actor", "kind", "I", true)
  | 1 => ("YardActors$Actor", "a", "I", true)
  | 2 => ("YardActors$Actor", "b", "I", true)
  | 3 => ("YardActors$Actor", "ins", "[LYardActors$Channel;", true)
  | 4 => ("YardActors$Actor", "outs", "[LYardActors$Channel;", true)
  | 5 => ("YardActors$Actor", "row", "[I", true)
  | 6 => ("YardActors$Actor", "told", "I", false)
  | _ => ("YardActors$Actor", "times", "I", false)
def t_A : Nat → FieldType := fun k => match k with
  | 0 => .int
  | 1 => .int
  | 2 => .int
  | 3 => .array (.object "YardActors$Channel")
  | 4 => .array (.object "YardActors$Channel")
  | 5 => .array .int
  | 6 => .int
  | _ => .int
theorem n_A : ∀ a, a < 8 → ∀ b, b < 8 → a ≠ b → (F_A a).2.1 ≠ (F_A b).2.1 := by decide +kernel
theorem t_A_ok : ∀ k, k < 8 → parseFieldDescriptor (F_A k).2.2.1 = some (t_A k) := by decide +kernel
theorem i_A : ∀ w ∈ u_ws R_A F_A 8, w ∈ lw_tbl := by decide +kernel
def R_C : String := "YardActors$Channel"
def F_C : u_T := fun k => match k with
  | 0 => ("YardActors$Channel", "room", "I", true)
  | 1 => ("YardActors$Channel", "ring", "[I", true)
  | 2 => ("YardActors$Channel", "first", "I", false)
  | _ => ("YardActors$Channel", "count", "I", false)
def t_C : Nat → FieldType := fun k => match k with
  | 0 => .int
  | 1 => .array .int
  | 2 => .int
  | _ => .int
theorem n_C : ∀ a, a < 4 → ∀ b, b < 4 → a ≠ b → (F_C a).2.1 ≠ (F_C b).2.1 := by decide +kernel
theorem t_C_ok : ∀ k, k < 4 → parseFieldDescriptor (F_C k).2.2.1 = some (t_C k) := by decide +kernel
theorem i_C : ∀ w ∈ u_ws R_C F_C 4, w ∈ lw_tbl := by decide +kernel
def R_Y : String := "YardActors$Yard"
def F_Y : u_T := fun k => match k with
  | 0 => ("YardActors$Yard", "actors", "[LYardActors$Actor;", true)
  | 1 => ("YardActors$Yard", "channels", "[LYardActors$Channel;", true)
  | 2 => ("YardActors$Yard", "ready", "[I", true)
  | 3 => ("YardActors$Yard", "actorCount", "I", false)
  | _ => ("YardActors$Yard", "channelCount", "I", false)
def t_Y : Nat → FieldType := fun k => match k with
  | 0 => .array (.object "YardActors$Actor")
  | 1 => .array (.object "YardActors$Channel")
  | 2 => .array .int
  | 3 => .int
  | _ => .int
theorem n_Y : ∀ a, a < 5 → ∀ b, b < 5 → a ≠ b → (F_Y a).2.1 ≠ (F_Y b).2.1 := by decide +kernel
theorem t_Y_ok : ∀ k, k < 5 → parseFieldDescriptor (F_Y k).2.2.1 = some (t_Y k) := by decide +kernel
theorem i_Y : ∀ w ∈ u_ws R_Y F_Y 5, w ∈ lw_tbl := by decide +kernel
def R_S : String := "YardActors"
def F_S : u_T := fun k => match k with
  | 0 => ("YardActors", "now", "LYardActors$Yard;", true)
  | 1 => ("YardActors", "last", "LYardActors$Yard;", true)
  | _ => ("YardActors", "lastIsSettled", "Z", false)
def t_S : Nat → FieldType := fun k => match k with
  | 0 => .object "YardActors$Yard"
  | 1 => .object "YardActors$Yard"
  | _ => .boolean
theorem n_S : ∀ a, a < 3 → ∀ b, b < 3 → a ≠ b → (F_S a).2.1 ≠ (F_S b).2.1 := by decide +kernel
theorem t_S_ok : ∀ k, k < 3 → parseFieldDescriptor (F_S k).2.2.1 = some (t_S k) := by decide +kernel
theorem i_S : ∀ w ∈ u_ws R_S F_S 3, w ∈ lw_tbl := by decide +kernel
def R_M : String := "YardActorsModel"
def F_M : u_T := fun k => match k with
  | 0 => ("YardActorsModel", "actors", "I", false)
  | 1 => ("YardActorsModel", "kinds", "[I", true)
  | 2 => ("YardActorsModel", "as", "[I", true)
  | 3 => ("YardActorsModel", "bs", "[I", true)
  | 4 => ("YardActorsModel", "toldCounts", "[I", true)
  | 5 => ("YardActorsModel", "told", "[I", true)
  | 6 => ("YardActorsModel", "channels", "I", false)
  | 7 => ("YardActorsModel", "rooms", "[I", true)
  | 8 => ("YardActorsModel", "ins", "[I", true)
  | 9 => ("YardActorsModel", "outs", "[I", true)
  | 10 => ("YardActorsModel", "acted", "[I", true)
  | 11 => ("YardActorsModel", "turns", "[I", true)
  | 12 => ("YardActorsModel", "keptCounts", "[I", true)
  | 13 => ("YardActorsModel", "kept", "[I", true)
  | 14 => ("YardActorsModel", "counts", "[I", true)
  | _ => ("YardActorsModel", "values", "[I", true)
def t_M : Nat → FieldType := fun k => match k with
  | 0 => .int
  | 1 => .array .int
  | 2 => .array .int
  | 3 => .array .int
  | 4 => .array .int
  | 5 => .array .int
  | 6 => .int
  | 7 => .array .int
  | 8 => .array .int
  | 9 => .array .int
  | 10 => .array .int
  | 11 => .array .int
  | 12 => .array .int
  | 13 => .array .int
  | 14 => .array .int
  | _ => .array .int
theorem n_M : ∀ a, a < 16 → ∀ b, b < 16 → a ≠ b → (F_M a).2.1 ≠ (F_M b).2.1 := by decide +kernel
theorem t_M_ok : ∀ k, k < 16 → parseFieldDescriptor (F_M k).2.2.1 = some (t_M k) := by decide +kernel
theorem i_M : ∀ w ∈ u_ws R_M F_M 16, w ∈ lw_tbl := by decide +kernel
def R_L : String := "YardActorsLaw"
abbrev ycl : List vw_C := [(R_A, F_A, 8), (R_C, F_C, 4), (R_Y, F_Y, 5), (R_S, F_S, 3), (R_M, F_M, 16)]
abbrev k_A : Nat := 0
abbrev k_C : Nat := 1
abbrev k_Y : Nat := 2
abbrev k_S : Nat := 3
abbrev k_M : Nat := 4
def lg_tbl : List Cond := lw_tbl.filter goodWord
theorem lg_in {w : Cond} (h : w ∈ lw_tbl) (hg : goodWord w = true) : w ∈ lg_tbl := List.mem_filter.mpr ⟨h, hg⟩
theorem lg_good {w : Cond} (h : w ∈ lg_tbl) : goodWord w = true := (List.mem_filter.mp h).2
theorem lg_lw {w : Cond} (h : w ∈ lg_tbl) : w ∈ lw_tbl := (List.mem_filter.mp h).1
theorem lw_in1 {w : Cond} {i : Nat} (h : tables_1_1[i]? = some w) : w ∈ lw_tbl := List.mem_append_right _ (List.mem_append_left _ (List.mem_of_getElem? h))
theorem lw_in2 {w : Cond} {i : Nat} (h : tables_1_2[i]? = some w) : w ∈ lw_tbl := List.mem_append_right _ (List.mem_append_right _ (List.mem_append_left _ (List.mem_of_getElem? h)))
theorem lw_in3 {w : Cond} {i : Nat} (h : tables_1_3[i]? = some w) : w ∈ lw_tbl := List.mem_append_right _ (List.mem_append_right _ (List.mem_append_right _ (List.mem_of_getElem? h)))
theorem j_A : ∀ w ∈ u_ws R_A F_A 8, w ∈ lg_tbl := fun w h => lg_in (i_A w h) (List.all_eq_true.mp (show (u_ws R_A F_A 8).all goodWord = true by decide +kernel) w h)
theorem j_C : ∀ w ∈ u_ws R_C F_C 4, w ∈ lg_tbl := fun w h => lg_in (i_C w h) (List.all_eq_true.mp (show (u_ws R_C F_C 4).all goodWord = true by decide +kernel) w h)
theorem j_Y : ∀ w ∈ u_ws R_Y F_Y 5, w ∈ lg_tbl := fun w h => lg_in (i_Y w h) (List.all_eq_true.mp (show (u_ws R_Y F_Y 5).all goodWord = true by decide +kernel) w h)
theorem j_S : ∀ w ∈ u_ws R_S F_S 3, w ∈ lg_tbl := fun w h => lg_in (i_S w h) (List.all_eq_true.mp (show (u_ws R_S F_S 3).all goodWord = true by decide +kernel) w h)
theorem j_M : ∀ w ∈ u_ws R_M F_M 16, w ∈ lg_tbl := fun w h => lg_in (i_M w h) (List.all_eq_true.mp (show (u_ws R_M F_M 16).all goodWord = true by decide +kernel) w h)
abbrev b_S_init : ByteArray := prog_1_method_1_code
def y_S_init : MethodName := ⟨"YardActors", "<init>", "()V"⟩
def w_S_init : List Cond := .code y_S_init b_S_init 1 none :: lg_tbl
abbrev b_Y_init : ByteArray := prog_4_method_1_code
def y_Y_init : MethodName := ⟨"YardActors$Yard", "<init>", "()V"⟩
def w_Y_init : List Cond := .code y_Y_init b_Y_init 1 none :: lg_tbl
abbrev b_S_actor : ByteArray := prog_1_method_2_code
def y_S_actor : MethodName := ⟨"YardActors", "actor", "(III)I"⟩
def w_S_actor : List Cond := .code y_S_actor b_S_actor 5 (some .int) :: lg_tbl
abbrev b_Y_addActor : ByteArray := prog_4_method_2_code
def y_Y_addActor : MethodName := ⟨"YardActors$Yard", "addActor", "(III)I"⟩
def w_Y_addActor : List Cond := .code y_Y_addActor b_Y_addActor 4 (some .int) :: lg_tbl
abbrev b_A_init : ByteArray := prog_2_method_1_code
def y_A_init : MethodName := ⟨"YardActors$Actor", "<init>", "(III)V"⟩
def w_A_init : List Cond := .code y_A_init b_A_init 4 none :: lg_tbl
abbrev b_S_value : ByteArray := prog_1_method_3_code
def y_S_value : MethodName := ⟨"YardActors", "value", "(II)Z"⟩
def w_S_value : List Cond := .code y_S_value b_S_value 4 (some .boolean) :: lg_tbl
abbrev b_Y_findKind : ByteArray := prog_4_method_5_code
def y_Y_findKind : MethodName := ⟨"YardActors$Yard", "findKind", "(II)LYardActors$Actor;"⟩
def w_Y_findKind : List Cond := .code y_Y_findKind b_Y_findKind 4 (some (.object "YardActors$Actor")) :: lg_tbl
abbrev b_Y_findActor : ByteArray := prog_4_method_4_code
def y_Y_findActor : MethodName := ⟨"YardActors$Yard", "findActor", "(I)LYardActors$Actor;"⟩
def w_Y_findActor : List Cond := .code y_Y_findActor b_Y_findActor 2 (some (.object "YardActors$Actor")) :: lg_tbl
abbrev b_A_isKind : ByteArray := prog_2_method_2_code
def y_A_isKind : MethodName := ⟨"YardActors$Actor", "isKind", "(I)Z"⟩
def w_A_isKind : List Cond := .code y_A_isKind b_A_isKind 2 (some .boolean) :: lg_tbl
abbrev b_A_tell : ByteArray := prog_2_method_5_code
def y_A_tell : MethodName := ⟨"YardActors$Actor", "tell", "(I)Z"⟩
def w_A_tell : List Cond := .code y_A_tell b_A_tell 2 (some .boolean) :: lg_tbl
abbrev b_S_channel : ByteArray := prog_1_method_4_code
def y_S_channel : MethodName := ⟨"YardActors", "channel", "(IIIII)I"⟩
def w_S_channel : List Cond := .code y_S_channel b_S_channel 7 (some .int) :: lg_tbl
abbrev b_Y_join : ByteArray := prog_4_method_3_code
def y_Y_join : MethodName := ⟨"YardActors$Yard", "join", "(IIIII)I"⟩
def w_Y_join : List Cond := .code y_Y_join b_Y_join 9 (some .int) :: lg_tbl
abbrev b_A_hasFreeOut : ByteArray := prog_2_method_7_code
def y_A_hasFreeOut : MethodName := ⟨"YardActors$Actor", "hasFreeOut", "(I)Z"⟩
def w_A_hasFreeOut : List Cond := .code y_A_hasFreeOut b_A_hasFreeOut 2 (some .boolean) :: lg_tbl
abbrev b_A_hasFreeIn : ByteArray := prog_2_method_6_code
def y_A_hasFreeIn : MethodName := ⟨"YardActors$Actor", "hasFreeIn", "(I)Z"⟩
def w_A_hasFreeIn : List Cond := .code y_A_hasFreeIn b_A_hasFreeIn 2 (some .boolean) :: lg_tbl
abbrev b_C_init : ByteArray := prog_3_method_1_code
def y_C_init : MethodName := ⟨"YardActors$Channel", "<init>", "(I)V"⟩
def w_C_init : List Cond := .code y_C_init b_C_init 2 none :: lg_tbl
abbrev b_A_joinOut : ByteArray := prog_2_method_9_code
def y_A_joinOut : MethodName := ⟨"YardActors$Actor", "joinOut", "(ILYardActors$Channel;)V"⟩
def w_A_joinOut : List Cond := .code y_A_joinOut b_A_joinOut 3 none :: lg_tbl
abbrev b_A_joinIn : ByteArray := prog_2_method_8_code
def y_A_joinIn : MethodName := ⟨"YardActors$Actor", "joinIn", "(ILYardActors$Channel;)V"⟩
def w_A_joinIn : List Cond := .code y_A_joinIn b_A_joinIn 3 none :: lg_tbl
abbrev b_S_can : ByteArray := prog_1_method_5_code
def y_S_can : MethodName := ⟨"YardActors", "can", "(I)Z"⟩
def w_S_can : List Cond := .code y_S_can b_S_can 3 (some .boolean) :: lg_tbl
abbrev b_A_isReady : ByteArray := prog_2_method_10_code
def y_A_isReady : MethodName := ⟨"YardActors$Actor", "isReady", "()Z"⟩
def w_A_isReady : List Cond := .code y_A_isReady b_A_isReady 1 (some .boolean) :: lg_tbl
abbrev b_A_hasRoom : ByteArray := prog_2_method_15_code
def y_A_hasRoom : MethodName := ⟨"YardActors$Actor", "hasRoom", "(I)Z"⟩
def w_A_hasRoom : List Cond := .code y_A_hasRoom b_A_hasRoom 3 (some .boolean) :: lg_tbl
abbrev b_C_isFull : ByteArray := prog_3_method_3_code
def y_C_isFull : MethodName := ⟨"YardActors$Channel", "isFull", "()Z"⟩
def w_C_isFull : List Cond := .code y_C_isFull b_C_isFull 1 (some .boolean) :: lg_tbl
abbrev b_A_hasValue : ByteArray := prog_2_method_13_code
def y_A_hasValue : MethodName := ⟨"YardActors$Actor", "hasValue", "(I)Z"⟩
def w_A_hasValue : List Cond := .code y_A_hasValue b_A_hasValue 3 (some .boolean) :: lg_tbl
abbrev b_C_size : ByteArray := prog_3_method_2_code
def y_C_size : MethodName := ⟨"YardActors$Channel", "size", "()I"⟩
def w_C_size : List Cond := .code y_C_size b_C_size 1 (some .int) :: lg_tbl
abbrev b_A_turn : ByteArray := prog_2_method_12_code
def y_A_turn : MethodName := ⟨"YardActors$Actor", "turn", "()I"⟩
def w_A_turn : List Cond := .code y_A_turn b_A_turn 1 (some .int) :: lg_tbl
abbrev b_A_isZero : ByteArray := prog_2_method_14_code
def y_A_isZero : MethodName := ⟨"YardActors$Actor", "isZero", "(I)Z"⟩
def w_A_isZero : List Cond := .code y_A_isZero b_A_isZero 3 (some .boolean) :: lg_tbl
abbrev b_C_peek : ByteArray := prog_3_method_4_code
def y_C_peek : MethodName := ⟨"YardActors$Channel", "peek", "(I)I"⟩
def w_C_peek : List Cond := .code y_C_peek b_C_peek 2 (some .int) :: lg_tbl
abbrev b_S_act : ByteArray := prog_1_method_6_code
def y_S_act : MethodName := ⟨"YardActors", "act", "(I)Z"⟩
def w_S_act : List Cond := .code y_S_act b_S_act 3 (some .boolean) :: lg_tbl
abbrev b_A_step : ByteArray := prog_2_method_11_code
def y_A_step : MethodName := ⟨"YardActors$Actor", "step", "()V"⟩
def w_A_step : List Cond := .code y_A_step b_A_step 4 none :: lg_tbl
abbrev b_A_rowValue : ByteArray := prog_2_method_4_code
def y_A_rowValue : MethodName := ⟨"YardActors$Actor", "rowValue", "(I)I"⟩
def w_A_rowValue : List Cond := .code y_A_rowValue b_A_rowValue 2 (some .int) :: lg_tbl
abbrev b_A_give : ByteArray := prog_2_method_17_code
def y_A_give : MethodName := ⟨"YardActors$Actor", "give", "(II)V"⟩
def w_A_give : List Cond := .code y_A_give b_A_give 4 none :: lg_tbl
abbrev b_C_put : ByteArray := prog_3_method_5_code
def y_C_put : MethodName := ⟨"YardActors$Channel", "put", "(I)V"⟩
def w_C_put : List Cond := .code y_C_put b_C_put 2 none :: lg_tbl
abbrev b_A_take : ByteArray := prog_2_method_16_code
def y_A_take : MethodName := ⟨"YardActors$Actor", "take", "(I)I"⟩
def w_A_take : List Cond := .code y_A_take b_A_take 3 (some .int) :: lg_tbl
abbrev b_C_take : ByteArray := prog_3_method_6_code
def y_C_take : MethodName := ⟨"YardActors$Channel", "take", "()I"⟩
def w_C_take : List Cond := .code y_C_take b_C_take 2 (some .int) :: lg_tbl
abbrev b_A_keep : ByteArray := prog_2_method_18_code
def y_A_keep : MethodName := ⟨"YardActors$Actor", "keep", "(I)V"⟩
def w_A_keep : List Cond := .code y_A_keep b_A_keep 2 none :: lg_tbl
abbrev b_S_run : ByteArray := prog_1_method_7_code
def y_S_run : MethodName := ⟨"YardActors", "run", "(JI)I"⟩
def w_S_run : List Cond := .code y_S_run b_S_run 4 (some .int) :: lg_tbl
abbrev b_Y_stepBySeed : ByteArray := prog_4_method_8_code
def y_Y_stepBySeed : MethodName := ⟨"YardActors$Yard", "stepBySeed", "(JI)I"⟩
def w_Y_stepBySeed : List Cond := .code y_Y_stepBySeed b_Y_stepBySeed 8 (some .int) :: lg_tbl
abbrev b_Y_stepDrawn : ByteArray := prog_4_method_9_code
def y_Y_stepDrawn : MethodName := ⟨"YardActors$Yard", "stepDrawn", "(J)Z"⟩
def w_Y_stepDrawn : List Cond := .code y_Y_stepDrawn b_Y_stepDrawn 6 (some .boolean) :: lg_tbl
abbrev b_Y_listReady : ByteArray := prog_4_method_10_code
def y_Y_listReady : MethodName := ⟨"YardActors$Yard", "listReady", "()I"⟩
def w_Y_listReady : List Cond := .code y_Y_listReady b_Y_listReady 4 (some .int) :: lg_tbl
abbrev b_S_acted : ByteArray := prog_1_method_8_code
def y_S_acted : MethodName := ⟨"YardActors", "acted", "(I)I"⟩
def w_S_acted : List Cond := .code y_S_acted b_S_acted 2 (some .int) :: lg_tbl
abbrev b_S_timesOf : ByteArray := prog_1_method_18_code
def y_S_timesOf : MethodName := ⟨"YardActors", "timesOf", "(LYardActors$Actor;)I"⟩
def w_S_timesOf : List Cond := .code y_S_timesOf b_S_timesOf 1 (some .int) :: lg_tbl
abbrev b_A_times : ByteArray := prog_2_method_3_code
def y_A_times : MethodName := ⟨"YardActors$Actor", "times", "()I"⟩
def w_A_times : List Cond := .code y_A_times b_A_times 1 (some .int) :: lg_tbl
abbrev b_S_kept : ByteArray := prog_1_method_9_code
def y_S_kept : MethodName := ⟨"YardActors", "kept", "(I)I"⟩
def w_S_kept : List Cond := .code y_S_kept b_S_kept 2 (some .int) :: lg_tbl
abbrev b_S_at : ByteArray := prog_1_method_10_code
def y_S_at : MethodName := ⟨"YardActors", "at", "(II)J"⟩
def w_S_at : List Cond := .code y_S_at b_S_at 3 (some .long) :: lg_tbl
abbrev b_S_keptValue : ByteArray := prog_1_method_19_code
def y_S_keptValue : MethodName := ⟨"YardActors", "keptValue", "(LYardActors$Actor;I)J"⟩
def w_S_keptValue : List Cond := .code y_S_keptValue b_S_keptValue 2 (some .long) :: lg_tbl
abbrev b_S_waits : ByteArray := prog_1_method_11_code
def y_S_waits : MethodName := ⟨"YardActors", "waits", "(I)I"⟩
def w_S_waits : List Cond := .code y_S_waits b_S_waits 3 (some .int) :: lg_tbl
abbrev b_Y_findChannel : ByteArray := prog_4_method_6_code
def y_Y_findChannel : MethodName := ⟨"YardActors$Yard", "findChannel", "(I)LYardActors$Channel;"⟩
def w_Y_findChannel : List Cond := .code y_Y_findChannel b_Y_findChannel 2 (some (.object "YardActors$Channel")) :: lg_tbl
abbrev b_S_waiting : ByteArray := prog_1_method_12_code
def y_S_waiting : MethodName := ⟨"YardActors", "waiting", "(II)J"⟩
def w_S_waiting : List Cond := .code y_S_waiting b_S_waiting 4 (some .long) :: lg_tbl
abbrev b_S_keptAtLast : ByteArray := prog_1_method_13_code
def y_S_keptAtLast : MethodName := ⟨"YardActors", "keptAtLast", "(I)I"⟩
def w_S_keptAtLast : List Cond := .code y_S_keptAtLast b_S_keptAtLast 2 (some .int) :: lg_tbl
abbrev b_S_settled : ByteArray := prog_1_method_17_code
def y_S_settled : MethodName := ⟨"YardActors", "settled", "()LYardActors$Yard;"⟩
def w_S_settled : List Cond := .code y_S_settled b_S_settled 1 (some (.object "YardActors$Yard")) :: lg_tbl
abbrev b_Y_copyFrom : ByteArray := prog_4_method_13_code
def y_Y_copyFrom : MethodName := ⟨"YardActors$Yard", "copyFrom", "(LYardActors$Yard;)V"⟩
def w_Y_copyFrom : List Cond := .code y_Y_copyFrom b_Y_copyFrom 5 none :: lg_tbl
abbrev b_A_copyFrom : ByteArray := prog_2_method_19_code
def y_A_copyFrom : MethodName := ⟨"YardActors$Actor", "copyFrom", "(LYardActors$Actor;)V"⟩
def w_A_copyFrom : List Cond := .code y_A_copyFrom b_A_copyFrom 2 none :: lg_tbl
abbrev b_C_copyFrom : ByteArray := prog_3_method_7_code
def y_C_copyFrom : MethodName := ⟨"YardActors$Channel", "copyFrom", "(LYardActors$Channel;)V"⟩
def w_C_copyFrom : List Cond := .code y_C_copyFrom b_C_copyFrom 2 none :: lg_tbl
abbrev b_Y_settle : ByteArray := prog_4_method_11_code
def y_Y_settle : MethodName := ⟨"YardActors$Yard", "settle", "()V"⟩
def w_Y_settle : List Cond := .code y_Y_settle b_Y_settle 2 none :: lg_tbl
abbrev b_Y_stepRound : ByteArray := prog_4_method_12_code
def y_Y_stepRound : MethodName := ⟨"YardActors$Yard", "stepRound", "()Z"⟩
def w_Y_stepRound : List Cond := .code y_Y_stepRound b_Y_stepRound 5 (some .boolean) :: lg_tbl
abbrev b_S_atLast : ByteArray := prog_1_method_14_code
def y_S_atLast : MethodName := ⟨"YardActors", "atLast", "(II)J"⟩
def w_S_atLast : List Cond := .code y_S_atLast b_S_atLast 3 (some .long) :: lg_tbl
abbrev b_S_actedAtLast : ByteArray := prog_1_method_15_code
def y_S_actedAtLast : MethodName := ⟨"YardActors", "actedAtLast", "(I)I"⟩
def w_S_actedAtLast : List Cond := .code y_S_actedAtLast b_S_actedAtLast 2 (some .int) :: lg_tbl
abbrev b_S_fullAtLast : ByteArray := prog_1_method_16_code
def y_S_fullAtLast : MethodName := ⟨"YardActors", "fullAtLast", "(I)I"⟩
def w_S_fullAtLast : List Cond := .code y_S_fullAtLast b_S_fullAtLast 2 (some .int) :: lg_tbl
abbrev b_Y_findFull : ByteArray := prog_4_method_7_code
def y_Y_findFull : MethodName := ⟨"YardActors$Yard", "findFull", "(I)I"⟩
def w_Y_findFull : List Cond := .code y_Y_findFull b_Y_findFull 5 (some .int) :: lg_tbl
abbrev b_M_init : ByteArray := prog_6_method_1_code
def y_M_init : MethodName := ⟨"YardActorsModel", "<init>", "()V"⟩
def w_M_init : List Cond := .code y_M_init b_M_init 2 none :: lg_tbl
abbrev b_M_actor : ByteArray := prog_6_method_8_code
def y_M_actor : MethodName := ⟨"YardActorsModel", "actor", "(III)I"⟩
def w_M_actor : List Cond := .code y_M_actor b_M_actor 4 (some .int) :: lg_tbl
abbrev b_M_value : ByteArray := prog_6_method_9_code
def y_M_value : MethodName := ⟨"YardActorsModel", "value", "(II)Z"⟩
def w_M_value : List Cond := .code y_M_value b_M_value 3 (some .boolean) :: lg_tbl
abbrev b_M_isActor : ByteArray := prog_6_method_3_code
def y_M_isActor : MethodName := ⟨"YardActorsModel", "isActor", "(I)Z"⟩
def w_M_isActor : List Cond := .code y_M_isActor b_M_isActor 2 (some .boolean) :: lg_tbl
abbrev b_M_channel : ByteArray := prog_6_method_10_code
def y_M_channel : MethodName := ⟨"YardActorsModel", "channel", "(IIIII)I"⟩
def w_M_channel : List Cond := .code y_M_channel b_M_channel 7 (some .int) :: lg_tbl
abbrev b_M_outsOf : ByteArray := prog_6_method_7_code
def y_M_outsOf : MethodName := ⟨"YardActorsModel", "outsOf", "(I)I"⟩
def w_M_outsOf : List Cond := .code y_M_outsOf b_M_outsOf 1 (some .int) :: lg_tbl
abbrev b_M_insOf : ByteArray := prog_6_method_6_code
def y_M_insOf : MethodName := ⟨"YardActorsModel", "insOf", "(I)I"⟩
def w_M_insOf : List Cond := .code y_M_insOf b_M_insOf 1 (some .int) :: lg_tbl
abbrev b_M_can : ByteArray := prog_6_method_18_code
def y_M_can : MethodName := ⟨"YardActorsModel", "can", "(I)Z"⟩
def w_M_can : List Cond := .code y_M_can b_M_can 2 (some .boolean) :: lg_tbl
abbrev b_M_canAct : ByteArray := prog_6_method_16_code
def y_M_canAct : MethodName := ⟨"YardActorsModel", "canAct", "(II)Z"⟩
def w_M_canAct : List Cond := .code y_M_canAct b_M_canAct 4 (some .boolean) :: lg_tbl
abbrev b_M_hasRoom : ByteArray := prog_6_method_12_code
def y_M_hasRoom : MethodName := ⟨"YardActorsModel", "hasRoom", "(III)Z"⟩
def w_M_hasRoom : List Cond := .code y_M_hasRoom b_M_hasRoom 5 (some .boolean) :: lg_tbl
abbrev b_M_hasValue : ByteArray := prog_6_method_11_code
def y_M_hasValue : MethodName := ⟨"YardActorsModel", "hasValue", "(III)Z"⟩
def w_M_hasValue : List Cond := .code y_M_hasValue b_M_hasValue 5 (some .boolean) :: lg_tbl
abbrev b_M_look : ByteArray := prog_6_method_13_code
def y_M_look : MethodName := ⟨"YardActorsModel", "look", "(III)I"⟩
def w_M_look : List Cond := .code y_M_look b_M_look 4 (some .int) :: lg_tbl
abbrev b_M_act : ByteArray := prog_6_method_19_code
def y_M_act : MethodName := ⟨"YardActorsModel", "act", "(I)Z"⟩
def w_M_act : List Cond := .code y_M_act b_M_act 2 (some .boolean) :: lg_tbl
abbrev b_M_doAct : ByteArray := prog_6_method_17_code
def y_M_doAct : MethodName := ⟨"YardActorsModel", "doAct", "(II)V"⟩
def w_M_doAct : List Cond := .code y_M_doAct b_M_doAct 7 none :: lg_tbl
abbrev b_M_give : ByteArray := prog_6_method_15_code
def y_M_give : MethodName := ⟨"YardActorsModel", "give", "(IIII)V"⟩
def w_M_give : List Cond := .code y_M_give b_M_give 6 none :: lg_tbl
abbrev b_M_take : ByteArray := prog_6_method_14_code
def y_M_take : MethodName := ⟨"YardActorsModel", "take", "(III)I"⟩
def w_M_take : List Cond := .code y_M_take b_M_take 8 (some .int) :: lg_tbl
abbrev b_M_run : ByteArray := prog_6_method_20_code
def y_M_run : MethodName := ⟨"YardActorsModel", "run", "(JI)I"⟩
def w_M_run : List Cond := .code y_M_run b_M_run 10 (some .int) :: lg_tbl
abbrev b_M_acted : ByteArray := prog_6_method_21_code
def y_M_acted : MethodName := ⟨"YardActorsModel", "acted", "(I)I"⟩
def w_M_acted : List Cond := .code y_M_acted b_M_acted 2 (some .int) :: lg_tbl
abbrev b_M_kept : ByteArray := prog_6_method_22_code
def y_M_kept : MethodName := ⟨"YardActorsModel", "kept", "(I)I"⟩
def w_M_kept : List Cond := .code y_M_kept b_M_kept 2 (some .int) :: lg_tbl
abbrev b_M_isSink : ByteArray := prog_6_method_4_code
def y_M_isSink : MethodName := ⟨"YardActorsModel", "isSink", "(I)Z"⟩
def w_M_isSink : List Cond := .code y_M_isSink b_M_isSink 2 (some .boolean) :: lg_tbl
abbrev b_M_at : ByteArray := prog_6_method_23_code
def y_M_at : MethodName := ⟨"YardActorsModel", "at", "(II)J"⟩
def w_M_at : List Cond := .code y_M_at b_M_at 3 (some .long) :: lg_tbl
abbrev b_M_waits : ByteArray := prog_6_method_24_code
def y_M_waits : MethodName := ⟨"YardActorsModel", "waits", "(I)I"⟩
def w_M_waits : List Cond := .code y_M_waits b_M_waits 2 (some .int) :: lg_tbl
abbrev b_M_isChannel : ByteArray := prog_6_method_5_code
def y_M_isChannel : MethodName := ⟨"YardActorsModel", "isChannel", "(I)Z"⟩
def w_M_isChannel : List Cond := .code y_M_isChannel b_M_isChannel 2 (some .boolean) :: lg_tbl
abbrev b_M_waiting : ByteArray := prog_6_method_25_code
def y_M_waiting : MethodName := ⟨"YardActorsModel", "waiting", "(II)J"⟩
def w_M_waiting : List Cond := .code y_M_waiting b_M_waiting 3 (some .long) :: lg_tbl
abbrev b_M_keptAtLast : ByteArray := prog_6_method_27_code
def y_M_keptAtLast : MethodName := ⟨"YardActorsModel", "keptAtLast", "(I)I"⟩
def w_M_keptAtLast : List Cond := .code y_M_keptAtLast b_M_keptAtLast 2 (some .int) :: lg_tbl
abbrev b_M_settle : ByteArray := prog_6_method_26_code
def y_M_settle : MethodName := ⟨"YardActorsModel", "settle", "()V"⟩
def w_M_settle : List Cond := .code y_M_settle b_M_settle 2 none :: lg_tbl
abbrev b_M_atLast : ByteArray := prog_6_method_28_code
def y_M_atLast : MethodName := ⟨"YardActorsModel", "atLast", "(II)J"⟩
def w_M_atLast : List Cond := .code y_M_atLast b_M_atLast 3 (some .long) :: lg_tbl
abbrev b_M_actedAtLast : ByteArray := prog_6_method_29_code
def y_M_actedAtLast : MethodName := ⟨"YardActorsModel", "actedAtLast", "(I)I"⟩
def w_M_actedAtLast : List Cond := .code y_M_actedAtLast b_M_actedAtLast 2 (some .int) :: lg_tbl
abbrev b_M_fullAtLast : ByteArray := prog_6_method_30_code
def y_M_fullAtLast : MethodName := ⟨"YardActorsModel", "fullAtLast", "(I)I"⟩
def w_M_fullAtLast : List Cond := .code y_M_fullAtLast b_M_fullAtLast 5 (some .int) :: lg_tbl
theorem mc_S_init : Cond.code y_S_init b_S_init 1 none ∈ lg_tbl := lg_in (lw_in1 (i := 12) rfl) rfl
theorem mc_Y_init : Cond.code y_Y_init b_Y_init 1 none ∈ lg_tbl := lg_in (lw_in1 (i := 20) rfl) rfl
theorem mc_S_actor : Cond.code y_S_actor b_S_actor 5 (some .int) ∈ lg_tbl := lg_in (lw_in1 (i := 56) rfl) rfl
theorem mc_Y_addActor : Cond.code y_Y_addActor b_Y_addActor 4 (some .int) ∈ lg_tbl := lg_in (lw_in1 (i := 60) rfl) rfl
theorem mc_A_init : Cond.code y_A_init b_A_init 4 none ∈ lg_tbl := lg_in (lw_in1 (i := 64) rfl) rfl
theorem mc_S_value : Cond.code y_S_value b_S_value 4 (some .boolean) ∈ lg_tbl := lg_in (lw_in1 (i := 97) rfl) rfl
theorem mc_Y_findKind : Cond.code y_Y_findKind b_Y_findKind 4 (some (.object "YardActors$Actor")) ∈ lg_tbl := lg_in (lw_in1 (i := 101) rfl) rfl
theorem mc_Y_findActor : Cond.code y_Y_findActor b_Y_findActor 2 (some (.object "YardActors$Actor")) ∈ lg_tbl := lg_in (lw_in1 (i := 105) rfl) rfl
theorem mc_A_isKind : Cond.code y_A_isKind b_A_isKind 2 (some .boolean) ∈ lg_tbl := lg_in (lw_in1 (i := 109) rfl) rfl
theorem mc_A_tell : Cond.code y_A_tell b_A_tell 2 (some .boolean) ∈ lg_tbl := lg_in (lw_in1 (i := 113) rfl) rfl
theorem mc_S_channel : Cond.code y_S_channel b_S_channel 7 (some .int) ∈ lg_tbl := lg_in (lw_in1 (i := 117) rfl) rfl
theorem mc_Y_join : Cond.code y_Y_join b_Y_join 9 (some .int) ∈ lg_tbl := lg_in (lw_in1 (i := 121) rfl) rfl
theorem mc_A_hasFreeOut : Cond.code y_A_hasFreeOut b_A_hasFreeOut 2 (some .boolean) ∈ lg_tbl := lg_in (lw_in1 (i := 125) rfl) rfl
theorem mc_A_hasFreeIn : Cond.code y_A_hasFreeIn b_A_hasFreeIn 2 (some .boolean) ∈ lg_tbl := lg_in (lw_in1 (i := 131) rfl) rfl
theorem mc_C_init : Cond.code y_C_init b_C_init 2 none ∈ lg_tbl := lg_in (lw_in1 (i := 137) rfl) rfl
theorem mc_A_joinOut : Cond.code y_A_joinOut b_A_joinOut 3 none ∈ lg_tbl := lg_in (lw_in1 (i := 155) rfl) rfl
theorem mc_A_joinIn : Cond.code y_A_joinIn b_A_joinIn 3 none ∈ lg_tbl := lg_in (lw_in1 (i := 159) rfl) rfl
theorem mc_S_can : Cond.code y_S_can b_S_can 3 (some .boolean) ∈ lg_tbl := lg_in (lw_in1 (i := 163) rfl) rfl
theorem mc_A_isReady : Cond.code y_A_isReady b_A_isReady 1 (some .boolean) ∈ lg_tbl := lg_in (lw_in1 (i := 168) rfl) rfl
theorem mc_A_hasRoom : Cond.code y_A_hasRoom b_A_hasRoom 3 (some .boolean) ∈ lg_tbl := lg_in (lw_in1 (i := 172) rfl) rfl
theorem mc_C_isFull : Cond.code y_C_isFull b_C_isFull 1 (some .boolean) ∈ lg_tbl := lg_in (lw_in1 (i := 176) rfl) rfl
theorem mc_A_hasValue : Cond.code y_A_hasValue b_A_hasValue 3 (some .boolean) ∈ lg_tbl := lg_in (lw_in1 (i := 180) rfl) rfl
theorem mc_C_size : Cond.code y_C_size b_C_size 1 (some .int) ∈ lg_tbl := lg_in (lw_in1 (i := 184) rfl) rfl
theorem mc_A_turn : Cond.code y_A_turn b_A_turn 1 (some .int) ∈ lg_tbl := lg_in (lw_in1 (i := 188) rfl) rfl
theorem mc_A_isZero : Cond.code y_A_isZero b_A_isZero 3 (some .boolean) ∈ lg_tbl := lg_in (lw_in1 (i := 192) rfl) rfl
theorem mc_C_peek : Cond.code y_C_peek b_C_peek 2 (some .int) ∈ lg_tbl := lg_in (lw_in1 (i := 196) rfl) rfl
theorem mc_S_act : Cond.code y_S_act b_S_act 3 (some .boolean) ∈ lg_tbl := lg_in (lw_in1 (i := 200) rfl) rfl
theorem mc_A_step : Cond.code y_A_step b_A_step 4 none ∈ lg_tbl := lg_in (lw_in1 (i := 204) rfl) rfl
theorem mc_A_rowValue : Cond.code y_A_rowValue b_A_rowValue 2 (some .int) ∈ lg_tbl := lg_in (lw_in1 (i := 208) rfl) rfl
theorem mc_A_give : Cond.code y_A_give b_A_give 4 none ∈ lg_tbl := lg_in (lw_in1 (i := 212) rfl) rfl
theorem mc_C_put : Cond.code y_C_put b_C_put 2 none ∈ lg_tbl := lg_in (lw_in1 (i := 216) rfl) rfl
theorem mc_A_take : Cond.code y_A_take b_A_take 3 (some .int) ∈ lg_tbl := lg_in (lw_in1 (i := 220) rfl) rfl
theorem mc_C_take : Cond.code y_C_take b_C_take 2 (some .int) ∈ lg_tbl := lg_in (lw_in1 (i := 224) rfl) rfl
theorem mc_A_keep : Cond.code y_A_keep b_A_keep 2 none ∈ lg_tbl := lg_in (lw_in1 (i := 228) rfl) rfl
theorem mc_S_run : Cond.code y_S_run b_S_run 4 (some .int) ∈ lg_tbl := lg_in (lw_in1 (i := 232) rfl) rfl
theorem mc_Y_stepBySeed : Cond.code y_Y_stepBySeed b_Y_stepBySeed 8 (some .int) ∈ lg_tbl := lg_in (lw_in1 (i := 236) rfl) rfl
theorem mc_Y_stepDrawn : Cond.code y_Y_stepDrawn b_Y_stepDrawn 6 (some .boolean) ∈ lg_tbl := lg_in (lw_in2 (i := 2) rfl) rfl
theorem mc_Y_listReady : Cond.code y_Y_listReady b_Y_listReady 4 (some .int) ∈ lg_tbl := lg_in (lw_in2 (i := 6) rfl) rfl
theorem mc_S_acted : Cond.code y_S_acted b_S_acted 2 (some .int) ∈ lg_tbl := lg_in (lw_in2 (i := 12) rfl) rfl
theorem mc_S_timesOf : Cond.code y_S_timesOf b_S_timesOf 1 (some .int) ∈ lg_tbl := lg_in (lw_in2 (i := 15) rfl) rfl
theorem mc_A_times : Cond.code y_A_times b_A_times 1 (some .int) ∈ lg_tbl := lg_in (lw_in2 (i := 19) rfl) rfl
theorem mc_S_kept : Cond.code y_S_kept b_S_kept 2 (some .int) ∈ lg_tbl := lg_in (lw_in2 (i := 23) rfl) rfl
theorem mc_S_at : Cond.code y_S_at b_S_at 3 (some .long) ∈ lg_tbl := lg_in (lw_in2 (i := 27) rfl) rfl
theorem mc_S_keptValue : Cond.code y_S_keptValue b_S_keptValue 2 (some .long) ∈ lg_tbl := lg_in (lw_in2 (i := 30) rfl) rfl
theorem mc_S_waits : Cond.code y_S_waits b_S_waits 3 (some .int) ∈ lg_tbl := lg_in (lw_in2 (i := 36) rfl) rfl
theorem mc_Y_findChannel : Cond.code y_Y_findChannel b_Y_findChannel 2 (some (.object "YardActors$Channel")) ∈ lg_tbl := lg_in (lw_in2 (i := 40) rfl) rfl
theorem mc_S_waiting : Cond.code y_S_waiting b_S_waiting 4 (some .long) ∈ lg_tbl := lg_in (lw_in2 (i := 45) rfl) rfl
theorem mc_S_keptAtLast : Cond.code y_S_keptAtLast b_S_keptAtLast 2 (some .int) ∈ lg_tbl := lg_in (lw_in2 (i := 50) rfl) rfl
theorem mc_S_settled : Cond.code y_S_settled b_S_settled 1 (some (.object "YardActors$Yard")) ∈ lg_tbl := lg_in (lw_in2 (i := 54) rfl) rfl
theorem mc_Y_copyFrom : Cond.code y_Y_copyFrom b_Y_copyFrom 5 none ∈ lg_tbl := lg_in (lw_in2 (i := 58) rfl) rfl
theorem mc_A_copyFrom : Cond.code y_A_copyFrom b_A_copyFrom 2 none ∈ lg_tbl := lg_in (lw_in2 (i := 62) rfl) rfl
theorem mc_C_copyFrom : Cond.code y_C_copyFrom b_C_copyFrom 2 none ∈ lg_tbl := lg_in (lw_in2 (i := 73) rfl) rfl
theorem mc_Y_settle : Cond.code y_Y_settle b_Y_settle 2 none ∈ lg_tbl := lg_in (lw_in2 (i := 78) rfl) rfl
theorem mc_Y_stepRound : Cond.code y_Y_stepRound b_Y_stepRound 5 (some .boolean) ∈ lg_tbl := lg_in (lw_in2 (i := 82) rfl) rfl
theorem mc_S_atLast : Cond.code y_S_atLast b_S_atLast 3 (some .long) ∈ lg_tbl := lg_in (lw_in2 (i := 86) rfl) rfl
theorem mc_S_actedAtLast : Cond.code y_S_actedAtLast b_S_actedAtLast 2 (some .int) ∈ lg_tbl := lg_in (lw_in2 (i := 90) rfl) rfl
theorem mc_S_fullAtLast : Cond.code y_S_fullAtLast b_S_fullAtLast 2 (some .int) ∈ lg_tbl := lg_in (lw_in2 (i := 94) rfl) rfl
theorem mc_Y_findFull : Cond.code y_Y_findFull b_Y_findFull 5 (some .int) ∈ lg_tbl := lg_in (lw_in2 (i := 98) rfl) rfl
theorem mc_M_init : Cond.code y_M_init b_M_init 2 none ∈ lg_tbl := lg_in (lw_in2 (i := 104) rfl) rfl
theorem mc_M_actor : Cond.code y_M_actor b_M_actor 4 (some .int) ∈ lg_tbl := lg_in (lw_in2 (i := 158) rfl) rfl
theorem mc_M_value : Cond.code y_M_value b_M_value 3 (some .boolean) ∈ lg_tbl := lg_in (lw_in2 (i := 162) rfl) rfl
theorem mc_M_isActor : Cond.code y_M_isActor b_M_isActor 2 (some .boolean) ∈ lg_tbl := lg_in (lw_in2 (i := 166) rfl) rfl
theorem mc_M_channel : Cond.code y_M_channel b_M_channel 7 (some .int) ∈ lg_tbl := lg_in (lw_in2 (i := 170) rfl) rfl
theorem mc_M_outsOf : Cond.code y_M_outsOf b_M_outsOf 1 (some .int) ∈ lg_tbl := lg_in (lw_in2 (i := 173) rfl) rfl
theorem mc_M_insOf : Cond.code y_M_insOf b_M_insOf 1 (some .int) ∈ lg_tbl := lg_in (lw_in2 (i := 176) rfl) rfl
theorem mc_M_can : Cond.code y_M_can b_M_can 2 (some .boolean) ∈ lg_tbl := lg_in (lw_in2 (i := 180) rfl) rfl
theorem mc_M_canAct : Cond.code y_M_canAct b_M_canAct 4 (some .boolean) ∈ lg_tbl := lg_in (lw_in2 (i := 184) rfl) rfl
theorem mc_M_hasRoom : Cond.code y_M_hasRoom b_M_hasRoom 5 (some .boolean) ∈ lg_tbl := lg_in (lw_in2 (i := 188) rfl) rfl
theorem mc_M_hasValue : Cond.code y_M_hasValue b_M_hasValue 5 (some .boolean) ∈ lg_tbl := lg_in (lw_in2 (i := 192) rfl) rfl
theorem mc_M_look : Cond.code y_M_look b_M_look 4 (some .int) ∈ lg_tbl := lg_in (lw_in2 (i := 196) rfl) rfl
theorem mc_M_act : Cond.code y_M_act b_M_act 2 (some .boolean) ∈ lg_tbl := lg_in (lw_in2 (i := 200) rfl) rfl
theorem mc_M_doAct : Cond.code y_M_doAct b_M_doAct 7 none ∈ lg_tbl := lg_in (lw_in2 (i := 204) rfl) rfl
theorem mc_M_give : Cond.code y_M_give b_M_give 6 none ∈ lg_tbl := lg_in (lw_in2 (i := 208) rfl) rfl
theorem mc_M_take : Cond.code y_M_take b_M_take 8 (some .int) ∈ lg_tbl := lg_in (lw_in2 (i := 212) rfl) rfl
theorem mc_M_run : Cond.code y_M_run b_M_run 10 (some .int) ∈ lg_tbl := lg_in (lw_in2 (i := 216) rfl) rfl
theorem mc_M_acted : Cond.code y_M_acted b_M_acted 2 (some .int) ∈ lg_tbl := lg_in (lw_in2 (i := 222) rfl) rfl
theorem mc_M_kept : Cond.code y_M_kept b_M_kept 2 (some .int) ∈ lg_tbl := lg_in (lw_in2 (i := 226) rfl) rfl
theorem mc_M_isSink : Cond.code y_M_isSink b_M_isSink 2 (some .boolean) ∈ lg_tbl := lg_in (lw_in2 (i := 230) rfl) rfl
theorem mc_M_at : Cond.code y_M_at b_M_at 3 (some .long) ∈ lg_tbl := lg_in (lw_in2 (i := 234) rfl) rfl
theorem mc_M_waits : Cond.code y_M_waits b_M_waits 2 (some .int) ∈ lg_tbl := lg_in (lw_in2 (i := 239) rfl) rfl
theorem mc_M_isChannel : Cond.code y_M_isChannel b_M_isChannel 2 (some .boolean) ∈ lg_tbl := lg_in (lw_in3 (i := 3) rfl) rfl
theorem mc_M_waiting : Cond.code y_M_waiting b_M_waiting 3 (some .long) ∈ lg_tbl := lg_in (lw_in3 (i := 7) rfl) rfl
theorem mc_M_keptAtLast : Cond.code y_M_keptAtLast b_M_keptAtLast 2 (some .int) ∈ lg_tbl := lg_in (lw_in3 (i := 11) rfl) rfl
theorem mc_M_settle : Cond.code y_M_settle b_M_settle 2 none ∈ lg_tbl := lg_in (lw_in3 (i := 15) rfl) rfl
theorem mc_M_atLast : Cond.code y_M_atLast b_M_atLast 3 (some .long) ∈ lg_tbl := lg_in (lw_in3 (i := 19) rfl) rfl
theorem mc_M_actedAtLast : Cond.code y_M_actedAtLast b_M_actedAtLast 2 (some .int) ∈ lg_tbl := lg_in (lw_in3 (i := 23) rfl) rfl
theorem mc_M_fullAtLast : Cond.code y_M_fullAtLast b_M_fullAtLast 5 (some .int) ∈ lg_tbl := lg_in (lw_in3 (i := 27) rfl) rfl
theorem yg_sub {y : MethodName} {b : ByteArray} {n : Nat} {r : Option FieldType} {c : Cond} (hc : c ∈ lg_tbl) : GoodIn (Cond.code y b n r :: lg_tbl) (c :: lg_tbl) := fun w hw => by
  have hm : w ∈ lg_tbl := (List.mem_cons.mp hw).elim (fun e => e ▸ hc) id
  exact ⟨List.mem_cons_of_mem _ hm, good_of_word (lg_good hm)⟩
theorem yg_call {y y2 : MethodName} {b b2 : ByteArray} {n n2 idx : Nat} {r r2 : Option FieldType} {own C : String} (hc : Cond.code y2 b2 n2 r2 ∈ lg_tbl) (h1 : Cond.methodLink own idx y2 ∈ lg_tbl) (h2 : Cond.instanceMethod y2 ∈ lg_tbl) (h3 : Cond.selects C y2 y2 ∈ lg_tbl) (h4 : Cond.initialized C ∈ lg_tbl) : GoodIn (Cond.code y b n r :: lg_tbl) (wsV own idx C y2 (Cond.code y2 b2 n2 r2 :: lg_tbl)) := fun w hw => by
  rcases List.mem_append.mp hw with h | h
  · have hm : w ∈ lg_tbl := by
      rcases List.mem_cons.mp h with e | h
      · exact e ▸ h1
      · rcases List.mem_cons.mp h with e | h
        · exact e ▸ h2
        · rcases List.mem_cons.mp h with e | h
          · exact e ▸ h3
          · rcases List.mem_cons.mp h with e | h
            · exact e ▸ h4
            · cases h
    exact ⟨List.mem_cons_of_mem _ hm, good_of_word (lg_good hm)⟩
  · exact yg_sub hc w h
theorem mi_L : Cond.initialized "YardActorsLaw" ∈ lg_tbl := lg_in (lw_in1 (i := 0) (by decide +kernel)) (by decide +kernel)
theorem mi_S : Cond.initialized "YardActors" ∈ lg_tbl := lg_in (lw_in1 (i := 1) (by decide +kernel)) (by decide +kernel)
theorem mi_Y : Cond.initialized "YardActors$Yard" ∈ lg_tbl := lg_in (lw_in1 (i := 2) (by decide +kernel)) (by decide +kernel)
theorem mi_M : Cond.initialized "YardActorsModel" ∈ lg_tbl := lg_in (lw_in1 (i := 3) (by decide +kernel)) (by decide +kernel)
theorem mi_A : Cond.initialized "YardActors$Actor" ∈ lg_tbl := lg_in (lw_in1 (i := 4) (by decide +kernel)) (by decide +kernel)
theorem mi_C : Cond.initialized "YardActors$Channel" ∈ lg_tbl := lg_in (lw_in1 (i := 5) (by decide +kernel)) (by decide +kernel)
theorem mi_Math : Cond.initialized "java/lang/Math" ∈ lg_tbl := lg_in (lw_in1 (i := 6) (by decide +kernel)) (by decide +kernel)
theorem mi_System : Cond.initialized "java/lang/System" ∈ lg_tbl := lg_in (lw_in1 (i := 7) (by decide +kernel)) (by decide +kernel)
theorem mk_L_7 : Cond.classLink "YardActorsLaw" 7 "YardActors" ∈ lg_tbl := lg_in (lw_in1 (i := 8) (by decide +kernel)) (by decide +kernel)
theorem mn_S : Cond.instantiable "YardActors" 3 ∈ lg_tbl := lg_in (lw_in1 (i := 9) (by decide +kernel)) (by decide +kernel)
theorem ml_L_9 : Cond.methodLink "YardActorsLaw" 9 y_S_init ∈ lg_tbl := lg_in (lw_in1 (i := 10) (by decide +kernel)) (by decide +kernel)
theorem mm_S_init : Cond.instanceMethod y_S_init ∈ lg_tbl := lg_in (lw_in1 (i := 11) (by decide +kernel)) (by decide +kernel)
theorem ml_S_5 : Cond.methodLink "YardActors" 5 ⟨"java/lang/Object", "<init>", "()V"⟩ ∈ lg_tbl := lg_in (lw_in1 (i := 13) (by decide +kernel)) (by decide +kernel)
theorem mk_S_11 : Cond.classLink "YardActors" 11 "YardActors$Yard" ∈ lg_tbl := lg_in (lw_in1 (i := 16) (by decide +kernel)) (by decide +kernel)
theorem mn_Y : Cond.instantiable "YardActors$Yard" 5 ∈ lg_tbl := lg_in (lw_in1 (i := 17) (by decide +kernel)) (by decide +kernel)
theorem ml_S_13 : Cond.methodLink "YardActors" 13 y_Y_init ∈ lg_tbl := lg_in (lw_in1 (i := 18) (by decide +kernel)) (by decide +kernel)
theorem mm_Y_init : Cond.instanceMethod y_Y_init ∈ lg_tbl := lg_in (lw_in1 (i := 19) (by decide +kernel)) (by decide +kernel)
theorem ml_Y_3 : Cond.methodLink "YardActors$Yard" 3 ⟨"java/lang/Object", "<init>", "()V"⟩ ∈ lg_tbl := lg_in (lw_in1 (i := 21) (by decide +kernel)) (by decide +kernel)
theorem mk_Y_9 : Cond.classLink "YardActors$Yard" 9 "YardActors$Actor" ∈ lg_tbl := lg_in (lw_in1 (i := 22) (by decide +kernel)) (by decide +kernel)
theorem mk_Y_17 : Cond.classLink "YardActors$Yard" 17 "YardActors$Channel" ∈ lg_tbl := lg_in (lw_in1 (i := 24) (by decide +kernel)) (by decide +kernel)
theorem mf_Y_11 : Cond.fieldLink "YardActors$Yard" 11 "YardActors$Yard" "actors" "[LYardActors$Actor;" ∈ lg_tbl := lg_in (lw_in1 (i := 26) (by decide +kernel)) (by decide +kernel)
theorem mf_Y_19 : Cond.fieldLink "YardActors$Yard" 19 "YardActors$Yard" "channels" "[LYardActors$Channel;" ∈ lg_tbl := lg_in (lw_in1 (i := 27) (by decide +kernel)) (by decide +kernel)
theorem mf_Y_23 : Cond.fieldLink "YardActors$Yard" 23 "YardActors$Yard" "ready" "[I" ∈ lg_tbl := lg_in (lw_in1 (i := 28) (by decide +kernel)) (by decide +kernel)
theorem mf_Y_27 : Cond.fieldLink "YardActors$Yard" 27 "YardActors$Yard" "actorCount" "I" ∈ lg_tbl := lg_in (lw_in1 (i := 29) (by decide +kernel)) (by decide +kernel)
theorem mf_Y_31 : Cond.fieldLink "YardActors$Yard" 31 "YardActors$Yard" "channelCount" "I" ∈ lg_tbl := lg_in (lw_in1 (i := 30) (by decide +kernel)) (by decide +kernel)
theorem ma_int : Cond.arrayClass .int ∈ lg_tbl := lg_in (lw_in1 (i := 42) (by decide +kernel)) (by decide +kernel)
theorem mf_S_14 : Cond.fieldLink "YardActors" 14 "YardActors" "now" "LYardActors$Yard;" ∈ lg_tbl := lg_in (lw_in1 (i := 43) (by decide +kernel)) (by decide +kernel)
theorem mf_S_18 : Cond.fieldLink "YardActors" 18 "YardActors" "last" "LYardActors$Yard;" ∈ lg_tbl := lg_in (lw_in1 (i := 44) (by decide +kernel)) (by decide +kernel)
theorem mf_S_21 : Cond.fieldLink "YardActors" 21 "YardActors" "lastIsSettled" "Z" ∈ lg_tbl := lg_in (lw_in1 (i := 45) (by decide +kernel)) (by decide +kernel)
theorem ml_L_13 : Cond.methodLink "YardActorsLaw" 13 y_S_actor ∈ lg_tbl := lg_in (lw_in1 (i := 53) (by decide +kernel)) (by decide +kernel)
theorem mm_S_actor : Cond.instanceMethod y_S_actor ∈ lg_tbl := lg_in (lw_in1 (i := 54) (by decide +kernel)) (by decide +kernel)
theorem ml_S_25 : Cond.methodLink "YardActors" 25 y_Y_addActor ∈ lg_tbl := lg_in (lw_in1 (i := 57) (by decide +kernel)) (by decide +kernel)
theorem mm_Y_addActor : Cond.instanceMethod y_Y_addActor ∈ lg_tbl := lg_in (lw_in1 (i := 58) (by decide +kernel)) (by decide +kernel)
theorem mn_A : Cond.instantiable "YardActors$Actor" 8 ∈ lg_tbl := lg_in (lw_in1 (i := 61) (by decide +kernel)) (by decide +kernel)
theorem ml_Y_34 : Cond.methodLink "YardActors$Yard" 34 y_A_init ∈ lg_tbl := lg_in (lw_in1 (i := 62) (by decide +kernel)) (by decide +kernel)
theorem mm_A_init : Cond.instanceMethod y_A_init ∈ lg_tbl := lg_in (lw_in1 (i := 63) (by decide +kernel)) (by decide +kernel)
theorem ml_A_3 : Cond.methodLink "YardActors$Actor" 3 ⟨"java/lang/Object", "<init>", "()V"⟩ ∈ lg_tbl := lg_in (lw_in1 (i := 65) (by decide +kernel)) (by decide +kernel)
theorem mk_A_21 : Cond.classLink "YardActors$Actor" 21 "YardActors$Channel" ∈ lg_tbl := lg_in (lw_in1 (i := 66) (by decide +kernel)) (by decide +kernel)
theorem mf_A_9 : Cond.fieldLink "YardActors$Actor" 9 "YardActors$Actor" "kind" "I" ∈ lg_tbl := lg_in (lw_in1 (i := 69) (by decide +kernel)) (by decide +kernel)
theorem mf_A_15 : Cond.fieldLink "YardActors$Actor" 15 "YardActors$Actor" "a" "I" ∈ lg_tbl := lg_in (lw_in1 (i := 70) (by decide +kernel)) (by decide +kernel)
theorem mf_A_18 : Cond.fieldLink "YardActors$Actor" 18 "YardActors$Actor" "b" "I" ∈ lg_tbl := lg_in (lw_in1 (i := 71) (by decide +kernel)) (by decide +kernel)
theorem mf_A_23 : Cond.fieldLink "YardActors$Actor" 23 "YardActors$Actor" "ins" "[LYardActors$Channel;" ∈ lg_tbl := lg_in (lw_in1 (i := 72) (by decide +kernel)) (by decide +kernel)
theorem mf_A_27 : Cond.fieldLink "YardActors$Actor" 27 "YardActors$Actor" "outs" "[LYardActors$Channel;" ∈ lg_tbl := lg_in (lw_in1 (i := 73) (by decide +kernel)) (by decide +kernel)
theorem mf_A_34 : Cond.fieldLink "YardActors$Actor" 34 "YardActors$Actor" "row" "[I" ∈ lg_tbl := lg_in (lw_in1 (i := 74) (by decide +kernel)) (by decide +kernel)
theorem mf_A_37 : Cond.fieldLink "YardActors$Actor" 37 "YardActors$Actor" "told" "I" ∈ lg_tbl := lg_in (lw_in1 (i := 75) (by decide +kernel)) (by decide +kernel)
theorem mf_A_40 : Cond.fieldLink "YardActors$Actor" 40 "YardActors$Actor" "times" "I" ∈ lg_tbl := lg_in (lw_in1 (i := 76) (by decide +kernel)) (by decide +kernel)
theorem ml_L_18 : Cond.methodLink "YardActorsLaw" 18 y_S_value ∈ lg_tbl := lg_in (lw_in1 (i := 94) (by decide +kernel)) (by decide +kernel)
theorem mm_S_value : Cond.instanceMethod y_S_value ∈ lg_tbl := lg_in (lw_in1 (i := 95) (by decide +kernel)) (by decide +kernel)
theorem ml_S_29 : Cond.methodLink "YardActors" 29 y_Y_findKind ∈ lg_tbl := lg_in (lw_in1 (i := 98) (by decide +kernel)) (by decide +kernel)
theorem mm_Y_findKind : Cond.instanceMethod y_Y_findKind ∈ lg_tbl := lg_in (lw_in1 (i := 99) (by decide +kernel)) (by decide +kernel)
theorem ml_Y_37 : Cond.methodLink "YardActors$Yard" 37 y_Y_findActor ∈ lg_tbl := lg_in (lw_in1 (i := 102) (by decide +kernel)) (by decide +kernel)
theorem mm_Y_findActor : Cond.instanceMethod y_Y_findActor ∈ lg_tbl := lg_in (lw_in1 (i := 103) (by decide +kernel)) (by decide +kernel)
theorem ml_Y_58 : Cond.methodLink "YardActors$Yard" 58 y_A_isKind ∈ lg_tbl := lg_in (lw_in1 (i := 106) (by decide +kernel)) (by decide +kernel)
theorem mm_A_isKind : Cond.instanceMethod y_A_isKind ∈ lg_tbl := lg_in (lw_in1 (i := 107) (by decide +kernel)) (by decide +kernel)
theorem ml_S_33 : Cond.methodLink "YardActors" 33 y_A_tell ∈ lg_tbl := lg_in (lw_in1 (i := 110) (by decide +kernel)) (by decide +kernel)
theorem mm_A_tell : Cond.instanceMethod y_A_tell ∈ lg_tbl := lg_in (lw_in1 (i := 111) (by decide +kernel)) (by decide +kernel)
theorem ml_L_23 : Cond.methodLink "YardActorsLaw" 23 y_S_channel ∈ lg_tbl := lg_in (lw_in1 (i := 114) (by decide +kernel)) (by decide +kernel)
theorem mm_S_channel : Cond.instanceMethod y_S_channel ∈ lg_tbl := lg_in (lw_in1 (i := 115) (by decide +kernel)) (by decide +kernel)
theorem ml_S_39 : Cond.methodLink "YardActors" 39 y_Y_join ∈ lg_tbl := lg_in (lw_in1 (i := 118) (by decide +kernel)) (by decide +kernel)
theorem mm_Y_join : Cond.instanceMethod y_Y_join ∈ lg_tbl := lg_in (lw_in1 (i := 119) (by decide +kernel)) (by decide +kernel)
theorem ml_Y_41 : Cond.methodLink "YardActors$Yard" 41 y_A_hasFreeOut ∈ lg_tbl := lg_in (lw_in1 (i := 122) (by decide +kernel)) (by decide +kernel)
theorem mm_A_hasFreeOut : Cond.instanceMethod y_A_hasFreeOut ∈ lg_tbl := lg_in (lw_in1 (i := 123) (by decide +kernel)) (by decide +kernel)
theorem ml_Y_45 : Cond.methodLink "YardActors$Yard" 45 y_A_hasFreeIn ∈ lg_tbl := lg_in (lw_in1 (i := 128) (by decide +kernel)) (by decide +kernel)
theorem mm_A_hasFreeIn : Cond.instanceMethod y_A_hasFreeIn ∈ lg_tbl := lg_in (lw_in1 (i := 129) (by decide +kernel)) (by decide +kernel)
theorem mn_C : Cond.instantiable "YardActors$Channel" 4 ∈ lg_tbl := lg_in (lw_in1 (i := 134) (by decide +kernel)) (by decide +kernel)
theorem ml_Y_48 : Cond.methodLink "YardActors$Yard" 48 y_C_init ∈ lg_tbl := lg_in (lw_in1 (i := 135) (by decide +kernel)) (by decide +kernel)
theorem mm_C_init : Cond.instanceMethod y_C_init ∈ lg_tbl := lg_in (lw_in1 (i := 136) (by decide +kernel)) (by decide +kernel)
theorem ml_C_3 : Cond.methodLink "YardActors$Channel" 3 ⟨"java/lang/Object", "<init>", "()V"⟩ ∈ lg_tbl := lg_in (lw_in1 (i := 138) (by decide +kernel)) (by decide +kernel)
theorem mf_C_9 : Cond.fieldLink "YardActors$Channel" 9 "YardActors$Channel" "room" "I" ∈ lg_tbl := lg_in (lw_in1 (i := 139) (by decide +kernel)) (by decide +kernel)
theorem mf_C_15 : Cond.fieldLink "YardActors$Channel" 15 "YardActors$Channel" "ring" "[I" ∈ lg_tbl := lg_in (lw_in1 (i := 140) (by decide +kernel)) (by decide +kernel)
theorem mf_C_19 : Cond.fieldLink "YardActors$Channel" 19 "YardActors$Channel" "first" "I" ∈ lg_tbl := lg_in (lw_in1 (i := 141) (by decide +kernel)) (by decide +kernel)
theorem mf_C_22 : Cond.fieldLink "YardActors$Channel" 22 "YardActors$Channel" "count" "I" ∈ lg_tbl := lg_in (lw_in1 (i := 142) (by decide +kernel)) (by decide +kernel)
theorem ml_Y_51 : Cond.methodLink "YardActors$Yard" 51 y_A_joinOut ∈ lg_tbl := lg_in (lw_in1 (i := 152) (by decide +kernel)) (by decide +kernel)
theorem mm_A_joinOut : Cond.instanceMethod y_A_joinOut ∈ lg_tbl := lg_in (lw_in1 (i := 153) (by decide +kernel)) (by decide +kernel)
theorem ml_Y_55 : Cond.methodLink "YardActors$Yard" 55 y_A_joinIn ∈ lg_tbl := lg_in (lw_in1 (i := 156) (by decide +kernel)) (by decide +kernel)
theorem mm_A_joinIn : Cond.instanceMethod y_A_joinIn ∈ lg_tbl := lg_in (lw_in1 (i := 157) (by decide +kernel)) (by decide +kernel)
theorem ml_L_28 : Cond.methodLink "YardActorsLaw" 28 y_S_can ∈ lg_tbl := lg_in (lw_in1 (i := 160) (by decide +kernel)) (by decide +kernel)
theorem mm_S_can : Cond.instanceMethod y_S_can ∈ lg_tbl := lg_in (lw_in1 (i := 161) (by decide +kernel)) (by decide +kernel)
theorem ml_S_43 : Cond.methodLink "YardActors" 43 y_Y_findActor ∈ lg_tbl := lg_in (lw_in1 (i := 164) (by decide +kernel)) (by decide +kernel)
theorem ml_S_47 : Cond.methodLink "YardActors" 47 y_A_isReady ∈ lg_tbl := lg_in (lw_in1 (i := 165) (by decide +kernel)) (by decide +kernel)
theorem mm_A_isReady : Cond.instanceMethod y_A_isReady ∈ lg_tbl := lg_in (lw_in1 (i := 166) (by decide +kernel)) (by decide +kernel)
theorem ml_A_49 : Cond.methodLink "YardActors$Actor" 49 y_A_hasRoom ∈ lg_tbl := lg_in (lw_in1 (i := 169) (by decide +kernel)) (by decide +kernel)
theorem mm_A_hasRoom : Cond.instanceMethod y_A_hasRoom ∈ lg_tbl := lg_in (lw_in1 (i := 171) (by decide +kernel)) (by decide +kernel)
theorem ml_A_84 : Cond.methodLink "YardActors$Actor" 84 y_C_isFull ∈ lg_tbl := lg_in (lw_in1 (i := 173) (by decide +kernel)) (by decide +kernel)
theorem mm_C_isFull : Cond.instanceMethod y_C_isFull ∈ lg_tbl := lg_in (lw_in1 (i := 174) (by decide +kernel)) (by decide +kernel)
theorem ml_A_53 : Cond.methodLink "YardActors$Actor" 53 y_A_hasValue ∈ lg_tbl := lg_in (lw_in1 (i := 177) (by decide +kernel)) (by decide +kernel)
theorem mm_A_hasValue : Cond.instanceMethod y_A_hasValue ∈ lg_tbl := lg_in (lw_in1 (i := 179) (by decide +kernel)) (by decide +kernel)
theorem ml_A_78 : Cond.methodLink "YardActors$Actor" 78 y_C_size ∈ lg_tbl := lg_in (lw_in1 (i := 181) (by decide +kernel)) (by decide +kernel)
theorem mm_C_size : Cond.instanceMethod y_C_size ∈ lg_tbl := lg_in (lw_in1 (i := 182) (by decide +kernel)) (by decide +kernel)
theorem ml_A_56 : Cond.methodLink "YardActors$Actor" 56 y_A_turn ∈ lg_tbl := lg_in (lw_in1 (i := 185) (by decide +kernel)) (by decide +kernel)
theorem mm_A_turn : Cond.instanceMethod y_A_turn ∈ lg_tbl := lg_in (lw_in1 (i := 187) (by decide +kernel)) (by decide +kernel)
theorem ml_A_60 : Cond.methodLink "YardActors$Actor" 60 y_A_isZero ∈ lg_tbl := lg_in (lw_in1 (i := 189) (by decide +kernel)) (by decide +kernel)
theorem mm_A_isZero : Cond.instanceMethod y_A_isZero ∈ lg_tbl := lg_in (lw_in1 (i := 191) (by decide +kernel)) (by decide +kernel)
theorem ml_A_81 : Cond.methodLink "YardActors$Actor" 81 y_C_peek ∈ lg_tbl := lg_in (lw_in1 (i := 193) (by decide +kernel)) (by decide +kernel)
theorem mm_C_peek : Cond.instanceMethod y_C_peek ∈ lg_tbl := lg_in (lw_in1 (i := 194) (by decide +kernel)) (by decide +kernel)
theorem ml_L_33 : Cond.methodLink "YardActorsLaw" 33 y_S_act ∈ lg_tbl := lg_in (lw_in1 (i := 197) (by decide +kernel)) (by decide +kernel)
theorem mm_S_act : Cond.instanceMethod y_S_act ∈ lg_tbl := lg_in (lw_in1 (i := 198) (by decide +kernel)) (by decide +kernel)
theorem ml_S_51 : Cond.methodLink "YardActors" 51 y_A_step ∈ lg_tbl := lg_in (lw_in1 (i := 201) (by decide +kernel)) (by decide +kernel)
theorem mm_A_step : Cond.instanceMethod y_A_step ∈ lg_tbl := lg_in (lw_in1 (i := 202) (by decide +kernel)) (by decide +kernel)
theorem ml_A_63 : Cond.methodLink "YardActors$Actor" 63 y_A_rowValue ∈ lg_tbl := lg_in (lw_in1 (i := 205) (by decide +kernel)) (by decide +kernel)
theorem mm_A_rowValue : Cond.instanceMethod y_A_rowValue ∈ lg_tbl := lg_in (lw_in1 (i := 206) (by decide +kernel)) (by decide +kernel)
theorem ml_A_67 : Cond.methodLink "YardActors$Actor" 67 y_A_give ∈ lg_tbl := lg_in (lw_in1 (i := 209) (by decide +kernel)) (by decide +kernel)
theorem mm_A_give : Cond.instanceMethod y_A_give ∈ lg_tbl := lg_in (lw_in1 (i := 211) (by decide +kernel)) (by decide +kernel)
theorem ml_A_90 : Cond.methodLink "YardActors$Actor" 90 y_C_put ∈ lg_tbl := lg_in (lw_in1 (i := 213) (by decide +kernel)) (by decide +kernel)
theorem mm_C_put : Cond.instanceMethod y_C_put ∈ lg_tbl := lg_in (lw_in1 (i := 214) (by decide +kernel)) (by decide +kernel)
theorem ml_A_71 : Cond.methodLink "YardActors$Actor" 71 y_A_take ∈ lg_tbl := lg_in (lw_in1 (i := 217) (by decide +kernel)) (by decide +kernel)
theorem mm_A_take : Cond.instanceMethod y_A_take ∈ lg_tbl := lg_in (lw_in1 (i := 219) (by decide +kernel)) (by decide +kernel)
theorem ml_A_88 : Cond.methodLink "YardActors$Actor" 88 y_C_take ∈ lg_tbl := lg_in (lw_in1 (i := 221) (by decide +kernel)) (by decide +kernel)
theorem mm_C_take : Cond.instanceMethod y_C_take ∈ lg_tbl := lg_in (lw_in1 (i := 222) (by decide +kernel)) (by decide +kernel)
theorem ml_A_74 : Cond.methodLink "YardActors$Actor" 74 y_A_keep ∈ lg_tbl := lg_in (lw_in1 (i := 225) (by decide +kernel)) (by decide +kernel)
theorem mm_A_keep : Cond.instanceMethod y_A_keep ∈ lg_tbl := lg_in (lw_in1 (i := 227) (by decide +kernel)) (by decide +kernel)
theorem ml_L_39 : Cond.methodLink "YardActorsLaw" 39 y_S_run ∈ lg_tbl := lg_in (lw_in1 (i := 229) (by decide +kernel)) (by decide +kernel)
theorem mm_S_run : Cond.instanceMethod y_S_run ∈ lg_tbl := lg_in (lw_in1 (i := 230) (by decide +kernel)) (by decide +kernel)
theorem ml_S_54 : Cond.methodLink "YardActors" 54 y_Y_stepBySeed ∈ lg_tbl := lg_in (lw_in1 (i := 233) (by decide +kernel)) (by decide +kernel)
theorem mm_Y_stepBySeed : Cond.instanceMethod y_Y_stepBySeed ∈ lg_tbl := lg_in (lw_in1 (i := 234) (by decide +kernel)) (by decide +kernel)
theorem mq_Y_69 : Cond.constantLong "YardActors$Yard" 69 (6364136223846793005) ∈ lg_tbl := lg_in (lw_in1 (i := 237) (by decide +kernel)) (by decide +kernel)
theorem mq_Y_71 : Cond.constantLong "YardActors$Yard" 71 (1442695040888963407) ∈ lg_tbl := lg_in (lw_in1 (i := 238) (by decide +kernel)) (by decide +kernel)
theorem ml_Y_73 : Cond.methodLink "YardActors$Yard" 73 y_Y_stepDrawn ∈ lg_tbl := lg_in (lw_in1 (i := 239) (by decide +kernel)) (by decide +kernel)
theorem mm_Y_stepDrawn : Cond.instanceMethod y_Y_stepDrawn ∈ lg_tbl := lg_in (lw_in2 (i := 1) (by decide +kernel)) (by decide +kernel)
theorem ml_Y_77 : Cond.methodLink "YardActors$Yard" 77 y_Y_listReady ∈ lg_tbl := lg_in (lw_in2 (i := 3) (by decide +kernel)) (by decide +kernel)
theorem mm_Y_listReady : Cond.instanceMethod y_Y_listReady ∈ lg_tbl := lg_in (lw_in2 (i := 5) (by decide +kernel)) (by decide +kernel)
theorem ml_Y_84 : Cond.methodLink "YardActors$Yard" 84 y_A_isReady ∈ lg_tbl := lg_in (lw_in2 (i := 7) (by decide +kernel)) (by decide +kernel)
theorem ml_Y_81 : Cond.methodLink "YardActors$Yard" 81 y_A_step ∈ lg_tbl := lg_in (lw_in2 (i := 8) (by decide +kernel)) (by decide +kernel)
theorem ml_L_44 : Cond.methodLink "YardActorsLaw" 44 y_S_acted ∈ lg_tbl := lg_in (lw_in2 (i := 9) (by decide +kernel)) (by decide +kernel)
theorem mm_S_acted : Cond.instanceMethod y_S_acted ∈ lg_tbl := lg_in (lw_in2 (i := 10) (by decide +kernel)) (by decide +kernel)
theorem ml_S_58 : Cond.methodLink "YardActors" 58 y_S_timesOf ∈ lg_tbl := lg_in (lw_in2 (i := 13) (by decide +kernel)) (by decide +kernel)
theorem mt_S_timesOf : Cond.static y_S_timesOf ∈ lg_tbl := lg_in (lw_in2 (i := 14) (by decide +kernel)) (by decide +kernel)
theorem ml_S_96 : Cond.methodLink "YardActors" 96 y_A_times ∈ lg_tbl := lg_in (lw_in2 (i := 16) (by decide +kernel)) (by decide +kernel)
theorem mm_A_times : Cond.instanceMethod y_A_times ∈ lg_tbl := lg_in (lw_in2 (i := 17) (by decide +kernel)) (by decide +kernel)
theorem ml_L_49 : Cond.methodLink "YardActorsLaw" 49 y_S_kept ∈ lg_tbl := lg_in (lw_in2 (i := 20) (by decide +kernel)) (by decide +kernel)
theorem mm_S_kept : Cond.instanceMethod y_S_kept ∈ lg_tbl := lg_in (lw_in2 (i := 21) (by decide +kernel)) (by decide +kernel)
theorem ml_L_53 : Cond.methodLink "YardActorsLaw" 53 y_S_at ∈ lg_tbl := lg_in (lw_in2 (i := 24) (by decide +kernel)) (by decide +kernel)
theorem mm_S_at : Cond.instanceMethod y_S_at ∈ lg_tbl := lg_in (lw_in2 (i := 25) (by decide +kernel)) (by decide +kernel)
theorem ml_S_62 : Cond.methodLink "YardActors" 62 y_S_keptValue ∈ lg_tbl := lg_in (lw_in2 (i := 28) (by decide +kernel)) (by decide +kernel)
theorem mt_S_keptValue : Cond.static y_S_keptValue ∈ lg_tbl := lg_in (lw_in2 (i := 29) (by decide +kernel)) (by decide +kernel)
theorem mq_S_76 : Cond.constantLong "YardActors" 76 (-9223372036854775808) ∈ lg_tbl := lg_in (lw_in2 (i := 31) (by decide +kernel)) (by decide +kernel)
theorem ml_S_99 : Cond.methodLink "YardActors" 99 y_A_rowValue ∈ lg_tbl := lg_in (lw_in2 (i := 32) (by decide +kernel)) (by decide +kernel)
theorem ml_L_58 : Cond.methodLink "YardActorsLaw" 58 y_S_waits ∈ lg_tbl := lg_in (lw_in2 (i := 33) (by decide +kernel)) (by decide +kernel)
theorem mm_S_waits : Cond.instanceMethod y_S_waits ∈ lg_tbl := lg_in (lw_in2 (i := 34) (by decide +kernel)) (by decide +kernel)
theorem ml_S_66 : Cond.methodLink "YardActors" 66 y_Y_findChannel ∈ lg_tbl := lg_in (lw_in2 (i := 37) (by decide +kernel)) (by decide +kernel)
theorem mm_Y_findChannel : Cond.instanceMethod y_Y_findChannel ∈ lg_tbl := lg_in (lw_in2 (i := 38) (by decide +kernel)) (by decide +kernel)
theorem ml_S_70 : Cond.methodLink "YardActors" 70 y_C_size ∈ lg_tbl := lg_in (lw_in2 (i := 41) (by decide +kernel)) (by decide +kernel)
theorem ml_L_62 : Cond.methodLink "YardActorsLaw" 62 y_S_waiting ∈ lg_tbl := lg_in (lw_in2 (i := 42) (by decide +kernel)) (by decide +kernel)
theorem mm_S_waiting : Cond.instanceMethod y_S_waiting ∈ lg_tbl := lg_in (lw_in2 (i := 43) (by decide +kernel)) (by decide +kernel)
theorem ml_S_78 : Cond.methodLink "YardActors" 78 y_C_peek ∈ lg_tbl := lg_in (lw_in2 (i := 46) (by decide +kernel)) (by decide +kernel)
theorem ml_L_66 : Cond.methodLink "YardActorsLaw" 66 y_S_keptAtLast ∈ lg_tbl := lg_in (lw_in2 (i := 47) (by decide +kernel)) (by decide +kernel)
theorem mm_S_keptAtLast : Cond.instanceMethod y_S_keptAtLast ∈ lg_tbl := lg_in (lw_in2 (i := 48) (by decide +kernel)) (by decide +kernel)
theorem ml_S_82 : Cond.methodLink "YardActors" 82 y_S_settled ∈ lg_tbl := lg_in (lw_in2 (i := 51) (by decide +kernel)) (by decide +kernel)
theorem mm_S_settled : Cond.instanceMethod y_S_settled ∈ lg_tbl := lg_in (lw_in2 (i := 53) (by decide +kernel)) (by decide +kernel)
theorem ml_S_89 : Cond.methodLink "YardActors" 89 y_Y_copyFrom ∈ lg_tbl := lg_in (lw_in2 (i := 55) (by decide +kernel)) (by decide +kernel)
theorem mm_Y_copyFrom : Cond.instanceMethod y_Y_copyFrom ∈ lg_tbl := lg_in (lw_in2 (i := 56) (by decide +kernel)) (by decide +kernel)
theorem ml_Y_90 : Cond.methodLink "YardActors$Yard" 90 y_A_copyFrom ∈ lg_tbl := lg_in (lw_in2 (i := 59) (by decide +kernel)) (by decide +kernel)
theorem mm_A_copyFrom : Cond.instanceMethod y_A_copyFrom ∈ lg_tbl := lg_in (lw_in2 (i := 60) (by decide +kernel)) (by decide +kernel)
theorem ml_A_93 : Cond.methodLink "YardActors$Actor" 93 ⟨"java/lang/Math", "min", "(II)I"⟩ ∈ lg_tbl := lg_in (lw_in2 (i := 63) (by decide +kernel)) (by decide +kernel)
theorem ml_A_99 : Cond.methodLink "YardActors$Actor" 99 ⟨"java/lang/System", "arraycopy", "(Ljava/lang/Object;ILjava/lang/Object;II)V"⟩ ∈ lg_tbl := lg_in (lw_in2 (i := 66) (by decide +kernel)) (by decide +kernel)
theorem ml_Y_61 : Cond.methodLink "YardActors$Yard" 61 y_Y_findChannel ∈ lg_tbl := lg_in (lw_in2 (i := 69) (by decide +kernel)) (by decide +kernel)
theorem ml_Y_94 : Cond.methodLink "YardActors$Yard" 94 y_C_copyFrom ∈ lg_tbl := lg_in (lw_in2 (i := 70) (by decide +kernel)) (by decide +kernel)
theorem mm_C_copyFrom : Cond.instanceMethod y_C_copyFrom ∈ lg_tbl := lg_in (lw_in2 (i := 71) (by decide +kernel)) (by decide +kernel)
theorem ml_C_25 : Cond.methodLink "YardActors$Channel" 25 ⟨"java/lang/System", "arraycopy", "(Ljava/lang/Object;ILjava/lang/Object;II)V"⟩ ∈ lg_tbl := lg_in (lw_in2 (i := 74) (by decide +kernel)) (by decide +kernel)
theorem ml_S_93 : Cond.methodLink "YardActors" 93 y_Y_settle ∈ lg_tbl := lg_in (lw_in2 (i := 75) (by decide +kernel)) (by decide +kernel)
theorem mm_Y_settle : Cond.instanceMethod y_Y_settle ∈ lg_tbl := lg_in (lw_in2 (i := 76) (by decide +kernel)) (by decide +kernel)
theorem ml_Y_87 : Cond.methodLink "YardActors$Yard" 87 y_Y_stepRound ∈ lg_tbl := lg_in (lw_in2 (i := 79) (by decide +kernel)) (by decide +kernel)
theorem mm_Y_stepRound : Cond.instanceMethod y_Y_stepRound ∈ lg_tbl := lg_in (lw_in2 (i := 81) (by decide +kernel)) (by decide +kernel)
theorem ml_L_70 : Cond.methodLink "YardActorsLaw" 70 y_S_atLast ∈ lg_tbl := lg_in (lw_in2 (i := 83) (by decide +kernel)) (by decide +kernel)
theorem mm_S_atLast : Cond.instanceMethod y_S_atLast ∈ lg_tbl := lg_in (lw_in2 (i := 84) (by decide +kernel)) (by decide +kernel)
theorem ml_L_74 : Cond.methodLink "YardActorsLaw" 74 y_S_actedAtLast ∈ lg_tbl := lg_in (lw_in2 (i := 87) (by decide +kernel)) (by decide +kernel)
theorem mm_S_actedAtLast : Cond.instanceMethod y_S_actedAtLast ∈ lg_tbl := lg_in (lw_in2 (i := 88) (by decide +kernel)) (by decide +kernel)
theorem ml_L_78 : Cond.methodLink "YardActorsLaw" 78 y_S_fullAtLast ∈ lg_tbl := lg_in (lw_in2 (i := 91) (by decide +kernel)) (by decide +kernel)
theorem mm_S_fullAtLast : Cond.instanceMethod y_S_fullAtLast ∈ lg_tbl := lg_in (lw_in2 (i := 92) (by decide +kernel)) (by decide +kernel)
theorem ml_S_86 : Cond.methodLink "YardActors" 86 y_Y_findFull ∈ lg_tbl := lg_in (lw_in2 (i := 95) (by decide +kernel)) (by decide +kernel)
theorem mm_Y_findFull : Cond.instanceMethod y_Y_findFull ∈ lg_tbl := lg_in (lw_in2 (i := 96) (by decide +kernel)) (by decide +kernel)
theorem ml_Y_65 : Cond.methodLink "YardActors$Yard" 65 y_C_isFull ∈ lg_tbl := lg_in (lw_in2 (i := 99) (by decide +kernel)) (by decide +kernel)
theorem mk_L_10 : Cond.classLink "YardActorsLaw" 10 "YardActorsModel" ∈ lg_tbl := lg_in (lw_in2 (i := 100) (by decide +kernel)) (by decide +kernel)
theorem mn_M : Cond.instantiable "YardActorsModel" 16 ∈ lg_tbl := lg_in (lw_in2 (i := 101) (by decide +kernel)) (by decide +kernel)
theorem ml_L_12 : Cond.methodLink "YardActorsLaw" 12 y_M_init ∈ lg_tbl := lg_in (lw_in2 (i := 102) (by decide +kernel)) (by decide +kernel)
theorem mm_M_init : Cond.instanceMethod y_M_init ∈ lg_tbl := lg_in (lw_in2 (i := 103) (by decide +kernel)) (by decide +kernel)
theorem ml_M_1 : Cond.methodLink "YardActorsModel" 1 ⟨"java/lang/Object", "<init>", "()V"⟩ ∈ lg_tbl := lg_in (lw_in2 (i := 105) (by decide +kernel)) (by decide +kernel)
theorem mf_M_52 : Cond.fieldLink "YardActorsModel" 52 "YardActorsModel" "actors" "I" ∈ lg_tbl := lg_in (lw_in2 (i := 106) (by decide +kernel)) (by decide +kernel)
theorem mf_M_7 : Cond.fieldLink "YardActorsModel" 7 "YardActorsModel" "kinds" "[I" ∈ lg_tbl := lg_in (lw_in2 (i := 107) (by decide +kernel)) (by decide +kernel)
theorem mf_M_13 : Cond.fieldLink "YardActorsModel" 13 "YardActorsModel" "as" "[I" ∈ lg_tbl := lg_in (lw_in2 (i := 108) (by decide +kernel)) (by decide +kernel)
theorem mf_M_16 : Cond.fieldLink "YardActorsModel" 16 "YardActorsModel" "bs" "[I" ∈ lg_tbl := lg_in (lw_in2 (i := 109) (by decide +kernel)) (by decide +kernel)
theorem mf_M_19 : Cond.fieldLink "YardActorsModel" 19 "YardActorsModel" "toldCounts" "[I" ∈ lg_tbl := lg_in (lw_in2 (i := 110) (by decide +kernel)) (by decide +kernel)
theorem mf_M_22 : Cond.fieldLink "YardActorsModel" 22 "YardActorsModel" "told" "[I" ∈ lg_tbl := lg_in (lw_in2 (i := 111) (by decide +kernel)) (by decide +kernel)
theorem mf_M_60 : Cond.fieldLink "YardActorsModel" 60 "YardActorsModel" "channels" "I" ∈ lg_tbl := lg_in (lw_in2 (i := 112) (by decide +kernel)) (by decide +kernel)
theorem mf_M_25 : Cond.fieldLink "YardActorsModel" 25 "YardActorsModel" "rooms" "[I" ∈ lg_tbl := lg_in (lw_in2 (i := 113) (by decide +kernel)) (by decide +kernel)
theorem mf_M_28 : Cond.fieldLink "YardActorsModel" 28 "YardActorsModel" "ins" "[I" ∈ lg_tbl := lg_in (lw_in2 (i := 114) (by decide +kernel)) (by decide +kernel)
theorem mf_M_31 : Cond.fieldLink "YardActorsModel" 31 "YardActorsModel" "outs" "[I" ∈ lg_tbl := lg_in (lw_in2 (i := 115) (by decide +kernel)) (by decide +kernel)
theorem mf_M_34 : Cond.fieldLink "YardActorsModel" 34 "YardActorsModel" "acted" "[I" ∈ lg_tbl := lg_in (lw_in2 (i := 116) (by decide +kernel)) (by decide +kernel)
theorem mf_M_37 : Cond.fieldLink "YardActorsModel" 37 "YardActorsModel" "turns" "[I" ∈ lg_tbl := lg_in (lw_in2 (i := 117) (by decide +kernel)) (by decide +kernel)
theorem mf_M_40 : Cond.fieldLink "YardActorsModel" 40 "YardActorsModel" "keptCounts" "[I" ∈ lg_tbl := lg_in (lw_in2 (i := 118) (by decide +kernel)) (by decide +kernel)
theorem mf_M_43 : Cond.fieldLink "YardActorsModel" 43 "YardActorsModel" "kept" "[I" ∈ lg_tbl := lg_in (lw_in2 (i := 119) (by decide +kernel)) (by decide +kernel)
theorem mf_M_46 : Cond.fieldLink "YardActorsModel" 46 "YardActorsModel" "counts" "[I" ∈ lg_tbl := lg_in (lw_in2 (i := 120) (by decide +kernel)) (by decide +kernel)
theorem mf_M_49 : Cond.fieldLink "YardActorsModel" 49 "YardActorsModel" "values" "[I" ∈ lg_tbl := lg_in (lw_in2 (i := 121) (by decide +kernel)) (by decide +kernel)
theorem ml_L_17 : Cond.methodLink "YardActorsLaw" 17 y_M_actor ∈ lg_tbl := lg_in (lw_in2 (i := 155) (by decide +kernel)) (by decide +kernel)
theorem mm_M_actor : Cond.instanceMethod y_M_actor ∈ lg_tbl := lg_in (lw_in2 (i := 156) (by decide +kernel)) (by decide +kernel)
theorem ml_L_22 : Cond.methodLink "YardActorsLaw" 22 y_M_value ∈ lg_tbl := lg_in (lw_in2 (i := 159) (by decide +kernel)) (by decide +kernel)
theorem mm_M_value : Cond.instanceMethod y_M_value ∈ lg_tbl := lg_in (lw_in2 (i := 160) (by decide +kernel)) (by decide +kernel)
theorem ml_M_56 : Cond.methodLink "YardActorsModel" 56 y_M_isActor ∈ lg_tbl := lg_in (lw_in2 (i := 163) (by decide +kernel)) (by decide +kernel)
theorem mm_M_isActor : Cond.instanceMethod y_M_isActor ∈ lg_tbl := lg_in (lw_in2 (i := 165) (by decide +kernel)) (by decide +kernel)
theorem ml_L_27 : Cond.methodLink "YardActorsLaw" 27 y_M_channel ∈ lg_tbl := lg_in (lw_in2 (i := 167) (by decide +kernel)) (by decide +kernel)
theorem mm_M_channel : Cond.instanceMethod y_M_channel ∈ lg_tbl := lg_in (lw_in2 (i := 168) (by decide +kernel)) (by decide +kernel)
theorem ml_M_63 : Cond.methodLink "YardActorsModel" 63 y_M_outsOf ∈ lg_tbl := lg_in (lw_in2 (i := 171) (by decide +kernel)) (by decide +kernel)
theorem mt_M_outsOf : Cond.static y_M_outsOf ∈ lg_tbl := lg_in (lw_in2 (i := 172) (by decide +kernel)) (by decide +kernel)
theorem ml_M_67 : Cond.methodLink "YardActorsModel" 67 y_M_insOf ∈ lg_tbl := lg_in (lw_in2 (i := 174) (by decide +kernel)) (by decide +kernel)
theorem mt_M_insOf : Cond.static y_M_insOf ∈ lg_tbl := lg_in (lw_in2 (i := 175) (by decide +kernel)) (by decide +kernel)
theorem ml_L_32 : Cond.methodLink "YardActorsLaw" 32 y_M_can ∈ lg_tbl := lg_in (lw_in2 (i := 177) (by decide +kernel)) (by decide +kernel)
theorem mm_M_can : Cond.instanceMethod y_M_can ∈ lg_tbl := lg_in (lw_in2 (i := 178) (by decide +kernel)) (by decide +kernel)
theorem ml_M_88 : Cond.methodLink "YardActorsModel" 88 y_M_canAct ∈ lg_tbl := lg_in (lw_in2 (i := 181) (by decide +kernel)) (by decide +kernel)
theorem mm_M_canAct : Cond.instanceMethod y_M_canAct ∈ lg_tbl := lg_in (lw_in2 (i := 183) (by decide +kernel)) (by decide +kernel)
theorem ml_M_70 : Cond.methodLink "YardActorsModel" 70 y_M_hasRoom ∈ lg_tbl := lg_in (lw_in2 (i := 185) (by decide +kernel)) (by decide +kernel)
theorem mm_M_hasRoom : Cond.instanceMethod y_M_hasRoom ∈ lg_tbl := lg_in (lw_in2 (i := 187) (by decide +kernel)) (by decide +kernel)
theorem ml_M_74 : Cond.methodLink "YardActorsModel" 74 y_M_hasValue ∈ lg_tbl := lg_in (lw_in2 (i := 189) (by decide +kernel)) (by decide +kernel)
theorem mm_M_hasValue : Cond.instanceMethod y_M_hasValue ∈ lg_tbl := lg_in (lw_in2 (i := 191) (by decide +kernel)) (by decide +kernel)
theorem ml_M_77 : Cond.methodLink "YardActorsModel" 77 y_M_look ∈ lg_tbl := lg_in (lw_in2 (i := 193) (by decide +kernel)) (by decide +kernel)
theorem mm_M_look : Cond.instanceMethod y_M_look ∈ lg_tbl := lg_in (lw_in2 (i := 195) (by decide +kernel)) (by decide +kernel)
theorem ml_L_36 : Cond.methodLink "YardActorsLaw" 36 y_M_act ∈ lg_tbl := lg_in (lw_in2 (i := 197) (by decide +kernel)) (by decide +kernel)
theorem mm_M_act : Cond.instanceMethod y_M_act ∈ lg_tbl := lg_in (lw_in2 (i := 198) (by decide +kernel)) (by decide +kernel)
theorem ml_M_92 : Cond.methodLink "YardActorsModel" 92 y_M_doAct ∈ lg_tbl := lg_in (lw_in2 (i := 201) (by decide +kernel)) (by decide +kernel)
theorem mm_M_doAct : Cond.instanceMethod y_M_doAct ∈ lg_tbl := lg_in (lw_in2 (i := 203) (by decide +kernel)) (by decide +kernel)
theorem ml_M_81 : Cond.methodLink "YardActorsModel" 81 y_M_give ∈ lg_tbl := lg_in (lw_in2 (i := 205) (by decide +kernel)) (by decide +kernel)
theorem mm_M_give : Cond.instanceMethod y_M_give ∈ lg_tbl := lg_in (lw_in2 (i := 207) (by decide +kernel)) (by decide +kernel)
theorem ml_M_85 : Cond.methodLink "YardActorsModel" 85 y_M_take ∈ lg_tbl := lg_in (lw_in2 (i := 209) (by decide +kernel)) (by decide +kernel)
theorem mm_M_take : Cond.instanceMethod y_M_take ∈ lg_tbl := lg_in (lw_in2 (i := 211) (by decide +kernel)) (by decide +kernel)
theorem ml_L_43 : Cond.methodLink "YardActorsLaw" 43 y_M_run ∈ lg_tbl := lg_in (lw_in2 (i := 213) (by decide +kernel)) (by decide +kernel)
theorem mm_M_run : Cond.instanceMethod y_M_run ∈ lg_tbl := lg_in (lw_in2 (i := 214) (by decide +kernel)) (by decide +kernel)
theorem mq_M_96 : Cond.constantLong "YardActorsModel" 96 (6364136223846793005) ∈ lg_tbl := lg_in (lw_in2 (i := 217) (by decide +kernel)) (by decide +kernel)
theorem mq_M_98 : Cond.constantLong "YardActorsModel" 98 (1442695040888963407) ∈ lg_tbl := lg_in (lw_in2 (i := 218) (by decide +kernel)) (by decide +kernel)
theorem ml_L_48 : Cond.methodLink "YardActorsLaw" 48 y_M_acted ∈ lg_tbl := lg_in (lw_in2 (i := 219) (by decide +kernel)) (by decide +kernel)
theorem mm_M_acted : Cond.instanceMethod y_M_acted ∈ lg_tbl := lg_in (lw_in2 (i := 220) (by decide +kernel)) (by decide +kernel)
theorem ml_L_52 : Cond.methodLink "YardActorsLaw" 52 y_M_kept ∈ lg_tbl := lg_in (lw_in2 (i := 223) (by decide +kernel)) (by decide +kernel)
theorem mm_M_kept : Cond.instanceMethod y_M_kept ∈ lg_tbl := lg_in (lw_in2 (i := 224) (by decide +kernel)) (by decide +kernel)
theorem ml_M_100 : Cond.methodLink "YardActorsModel" 100 y_M_isSink ∈ lg_tbl := lg_in (lw_in2 (i := 227) (by decide +kernel)) (by decide +kernel)
theorem mm_M_isSink : Cond.instanceMethod y_M_isSink ∈ lg_tbl := lg_in (lw_in2 (i := 229) (by decide +kernel)) (by decide +kernel)
theorem ml_L_57 : Cond.methodLink "YardActorsLaw" 57 y_M_at ∈ lg_tbl := lg_in (lw_in2 (i := 231) (by decide +kernel)) (by decide +kernel)
theorem mm_M_at : Cond.instanceMethod y_M_at ∈ lg_tbl := lg_in (lw_in2 (i := 232) (by decide +kernel)) (by decide +kernel)
theorem mq_M_103 : Cond.constantLong "YardActorsModel" 103 (-9223372036854775808) ∈ lg_tbl := lg_in (lw_in2 (i := 235) (by decide +kernel)) (by decide +kernel)
theorem ml_L_61 : Cond.methodLink "YardActorsLaw" 61 y_M_waits ∈ lg_tbl := lg_in (lw_in2 (i := 236) (by decide +kernel)) (by decide +kernel)
theorem mm_M_waits : Cond.instanceMethod y_M_waits ∈ lg_tbl := lg_in (lw_in2 (i := 237) (by decide +kernel)) (by decide +kernel)
theorem ml_M_105 : Cond.methodLink "YardActorsModel" 105 y_M_isChannel ∈ lg_tbl := lg_in (lw_in3 (i := 0) (by decide +kernel)) (by decide +kernel)
theorem mm_M_isChannel : Cond.instanceMethod y_M_isChannel ∈ lg_tbl := lg_in (lw_in3 (i := 2) (by decide +kernel)) (by decide +kernel)
theorem ml_L_65 : Cond.methodLink "YardActorsLaw" 65 y_M_waiting ∈ lg_tbl := lg_in (lw_in3 (i := 4) (by decide +kernel)) (by decide +kernel)
theorem mm_M_waiting : Cond.instanceMethod y_M_waiting ∈ lg_tbl := lg_in (lw_in3 (i := 5) (by decide +kernel)) (by decide +kernel)
theorem ml_L_69 : Cond.methodLink "YardActorsLaw" 69 y_M_keptAtLast ∈ lg_tbl := lg_in (lw_in3 (i := 8) (by decide +kernel)) (by decide +kernel)
theorem mm_M_keptAtLast : Cond.instanceMethod y_M_keptAtLast ∈ lg_tbl := lg_in (lw_in3 (i := 9) (by decide +kernel)) (by decide +kernel)
theorem ml_M_108 : Cond.methodLink "YardActorsModel" 108 y_M_settle ∈ lg_tbl := lg_in (lw_in3 (i := 12) (by decide +kernel)) (by decide +kernel)
theorem mm_M_settle : Cond.instanceMethod y_M_settle ∈ lg_tbl := lg_in (lw_in3 (i := 14) (by decide +kernel)) (by decide +kernel)
theorem ml_L_73 : Cond.methodLink "YardActorsLaw" 73 y_M_atLast ∈ lg_tbl := lg_in (lw_in3 (i := 16) (by decide +kernel)) (by decide +kernel)
theorem mm_M_atLast : Cond.instanceMethod y_M_atLast ∈ lg_tbl := lg_in (lw_in3 (i := 17) (by decide +kernel)) (by decide +kernel)
theorem ml_L_77 : Cond.methodLink "YardActorsLaw" 77 y_M_actedAtLast ∈ lg_tbl := lg_in (lw_in3 (i := 20) (by decide +kernel)) (by decide +kernel)
theorem mm_M_actedAtLast : Cond.instanceMethod y_M_actedAtLast ∈ lg_tbl := lg_in (lw_in3 (i := 21) (by decide +kernel)) (by decide +kernel)
theorem ml_L_81 : Cond.methodLink "YardActorsLaw" 81 y_M_fullAtLast ∈ lg_tbl := lg_in (lw_in3 (i := 24) (by decide +kernel)) (by decide +kernel)
theorem mm_M_fullAtLast : Cond.instanceMethod y_M_fullAtLast ∈ lg_tbl := lg_in (lw_in3 (i := 25) (by decide +kernel)) (by decide +kernel)
theorem mq_L_37 : Cond.constantLong "YardActorsLaw" 37 (4294967295) ∈ lg_tbl := lg_in (lw_in3 (i := 28) (by decide +kernel)) (by decide +kernel)
theorem ms_S_actor : Cond.selects "YardActors" y_S_actor y_S_actor ∈ lg_tbl := lg_in (lw_in1 (i := 55) (by decide +kernel)) (by decide +kernel)
theorem ms_Y_addActor : Cond.selects "YardActors$Yard" y_Y_addActor y_Y_addActor ∈ lg_tbl := lg_in (lw_in1 (i := 59) (by decide +kernel)) (by decide +kernel)
theorem ms_S_value : Cond.selects "YardActors" y_S_value y_S_value ∈ lg_tbl := lg_in (lw_in1 (i := 96) (by decide +kernel)) (by decide +kernel)
theorem ms_Y_findKind : Cond.selects "YardActors$Yard" y_Y_findKind y_Y_findKind ∈ lg_tbl := lg_in (lw_in1 (i := 100) (by decide +kernel)) (by decide +kernel)
theorem ms_Y_findActor : Cond.selects "YardActors$Yard" y_Y_findActor y_Y_findActor ∈ lg_tbl := lg_in (lw_in1 (i := 104) (by decide +kernel)) (by decide +kernel)
theorem ms_A_isKind : Cond.selects "YardActors$Actor" y_A_isKind y_A_isKind ∈ lg_tbl := lg_in (lw_in1 (i := 108) (by decide +kernel)) (by decide +kernel)
theorem ms_A_tell : Cond.selects "YardActors$Actor" y_A_tell y_A_tell ∈ lg_tbl := lg_in (lw_in1 (i := 112) (by decide +kernel)) (by decide +kernel)
theorem ms_S_channel : Cond.selects "YardActors" y_S_channel y_S_channel ∈ lg_tbl := lg_in (lw_in1 (i := 116) (by decide +kernel)) (by decide +kernel)
theorem ms_Y_join : Cond.selects "YardActors$Yard" y_Y_join y_Y_join ∈ lg_tbl := lg_in (lw_in1 (i := 120) (by decide +kernel)) (by decide +kernel)
theorem ms_A_hasFreeOut : Cond.selects "YardActors$Actor" y_A_hasFreeOut y_A_hasFreeOut ∈ lg_tbl := lg_in (lw_in1 (i := 124) (by decide +kernel)) (by decide +kernel)
theorem ms_A_hasFreeIn : Cond.selects "YardActors$Actor" y_A_hasFreeIn y_A_hasFreeIn ∈ lg_tbl := lg_in (lw_in1 (i := 130) (by decide +kernel)) (by decide +kernel)
theorem ms_A_joinOut : Cond.selects "YardActors$Actor" y_A_joinOut y_A_joinOut ∈ lg_tbl := lg_in (lw_in1 (i := 154) (by decide +kernel)) (by decide +kernel)
theorem ms_A_joinIn : Cond.selects "YardActors$Actor" y_A_joinIn y_A_joinIn ∈ lg_tbl := lg_in (lw_in1 (i := 158) (by decide +kernel)) (by decide +kernel)
theorem ms_S_can : Cond.selects "YardActors" y_S_can y_S_can ∈ lg_tbl := lg_in (lw_in1 (i := 162) (by decide +kernel)) (by decide +kernel)
theorem ms_A_isReady : Cond.selects "YardActors$Actor" y_A_isReady y_A_isReady ∈ lg_tbl := lg_in (lw_in1 (i := 167) (by decide +kernel)) (by decide +kernel)
theorem ms_C_isFull : Cond.selects "YardActors$Channel" y_C_isFull y_C_isFull ∈ lg_tbl := lg_in (lw_in1 (i := 175) (by decide +kernel)) (by decide +kernel)
theorem ms_C_size : Cond.selects "YardActors$Channel" y_C_size y_C_size ∈ lg_tbl := lg_in (lw_in1 (i := 183) (by decide +kernel)) (by decide +kernel)
theorem ms_C_peek : Cond.selects "YardActors$Channel" y_C_peek y_C_peek ∈ lg_tbl := lg_in (lw_in1 (i := 195) (by decide +kernel)) (by decide +kernel)
theorem ms_S_act : Cond.selects "YardActors" y_S_act y_S_act ∈ lg_tbl := lg_in (lw_in1 (i := 199) (by decide +kernel)) (by decide +kernel)
theorem ms_A_step : Cond.selects "YardActors$Actor" y_A_step y_A_step ∈ lg_tbl := lg_in (lw_in1 (i := 203) (by decide +kernel)) (by decide +kernel)
theorem ms_A_rowValue : Cond.selects "YardActors$Actor" y_A_rowValue y_A_rowValue ∈ lg_tbl := lg_in (lw_in1 (i := 207) (by decide +kernel)) (by decide +kernel)
theorem ms_C_put : Cond.selects "YardActors$Channel" y_C_put y_C_put ∈ lg_tbl := lg_in (lw_in1 (i := 215) (by decide +kernel)) (by decide +kernel)
theorem ms_C_take : Cond.selects "YardActors$Channel" y_C_take y_C_take ∈ lg_tbl := lg_in (lw_in1 (i := 223) (by decide +kernel)) (by decide +kernel)
theorem ms_S_run : Cond.selects "YardActors" y_S_run y_S_run ∈ lg_tbl := lg_in (lw_in1 (i := 231) (by decide +kernel)) (by decide +kernel)
theorem ms_Y_stepBySeed : Cond.selects "YardActors$Yard" y_Y_stepBySeed y_Y_stepBySeed ∈ lg_tbl := lg_in (lw_in1 (i := 235) (by decide +kernel)) (by decide +kernel)
theorem ms_S_acted : Cond.selects "YardActors" y_S_acted y_S_acted ∈ lg_tbl := lg_in (lw_in2 (i := 11) (by decide +kernel)) (by decide +kernel)
theorem ms_A_times : Cond.selects "YardActors$Actor" y_A_times y_A_times ∈ lg_tbl := lg_in (lw_in2 (i := 18) (by decide +kernel)) (by decide +kernel)
theorem ms_S_kept : Cond.selects "YardActors" y_S_kept y_S_kept ∈ lg_tbl := lg_in (lw_in2 (i := 22) (by decide +kernel)) (by decide +kernel)
theorem ms_S_at : Cond.selects "YardActors" y_S_at y_S_at ∈ lg_tbl := lg_in (lw_in2 (i := 26) (by decide +kernel)) (by decide +kernel)
theorem ms_S_waits : Cond.selects "YardActors" y_S_waits y_S_waits ∈ lg_tbl := lg_in (lw_in2 (i := 35) (by decide +kernel)) (by decide +kernel)
theorem ms_Y_findChannel : Cond.selects "YardActors$Yard" y_Y_findChannel y_Y_findChannel ∈ lg_tbl := lg_in (lw_in2 (i := 39) (by decide +kernel)) (by decide +kernel)
theorem ms_S_waiting : Cond.selects "YardActors" y_S_waiting y_S_waiting ∈ lg_tbl := lg_in (lw_in2 (i := 44) (by decide +kernel)) (by decide +kernel)
theorem ms_S_keptAtLast : Cond.selects "YardActors" y_S_keptAtLast y_S_keptAtLast ∈ lg_tbl := lg_in (lw_in2 (i := 49) (by decide +kernel)) (by decide +kernel)
theorem ms_Y_copyFrom : Cond.selects "YardActors$Yard" y_Y_copyFrom y_Y_copyFrom ∈ lg_tbl := lg_in (lw_in2 (i := 57) (by decide +kernel)) (by decide +kernel)
theorem ms_A_copyFrom : Cond.selects "YardActors$Actor" y_A_copyFrom y_A_copyFrom ∈ lg_tbl := lg_in (lw_in2 (i := 61) (by decide +kernel)) (by decide +kernel)
theorem ms_C_copyFrom : Cond.selects "YardActors$Channel" y_C_copyFrom y_C_copyFrom ∈ lg_tbl := lg_in (lw_in2 (i := 72) (by decide +kernel)) (by decide +kernel)
theorem ms_Y_settle : Cond.selects "YardActors$Yard" y_Y_settle y_Y_settle ∈ lg_tbl := lg_in (lw_in2 (i := 77) (by decide +kernel)) (by decide +kernel)
theorem ms_S_atLast : Cond.selects "YardActors" y_S_atLast y_S_atLast ∈ lg_tbl := lg_in (lw_in2 (i := 85) (by decide +kernel)) (by decide +kernel)
theorem ms_S_actedAtLast : Cond.selects "YardActors" y_S_actedAtLast y_S_actedAtLast ∈ lg_tbl := lg_in (lw_in2 (i := 89) (by decide +kernel)) (by decide +kernel)
theorem ms_S_fullAtLast : Cond.selects "YardActors" y_S_fullAtLast y_S_fullAtLast ∈ lg_tbl := lg_in (lw_in2 (i := 93) (by decide +kernel)) (by decide +kernel)
theorem ms_Y_findFull : Cond.selects "YardActors$Yard" y_Y_findFull y_Y_findFull ∈ lg_tbl := lg_in (lw_in2 (i := 97) (by decide +kernel)) (by decide +kernel)
theorem ms_M_actor : Cond.selects "YardActorsModel" y_M_actor y_M_actor ∈ lg_tbl := lg_in (lw_in2 (i := 157) (by decide +kernel)) (by decide +kernel)
theorem ms_M_value : Cond.selects "YardActorsModel" y_M_value y_M_value ∈ lg_tbl := lg_in (lw_in2 (i := 161) (by decide +kernel)) (by decide +kernel)
theorem ms_M_channel : Cond.selects "YardActorsModel" y_M_channel y_M_channel ∈ lg_tbl := lg_in (lw_in2 (i := 169) (by decide +kernel)) (by decide +kernel)
theorem ms_M_can : Cond.selects "YardActorsModel" y_M_can y_M_can ∈ lg_tbl := lg_in (lw_in2 (i := 179) (by decide +kernel)) (by decide +kernel)
theorem ms_M_act : Cond.selects "YardActorsModel" y_M_act y_M_act ∈ lg_tbl := lg_in (lw_in2 (i := 199) (by decide +kernel)) (by decide +kernel)
theorem ms_M_run : Cond.selects "YardActorsModel" y_M_run y_M_run ∈ lg_tbl := lg_in (lw_in2 (i := 215) (by decide +kernel)) (by decide +kernel)
theorem ms_M_acted : Cond.selects "YardActorsModel" y_M_acted y_M_acted ∈ lg_tbl := lg_in (lw_in2 (i := 221) (by decide +kernel)) (by decide +kernel)
theorem ms_M_kept : Cond.selects "YardActorsModel" y_M_kept y_M_kept ∈ lg_tbl := lg_in (lw_in2 (i := 225) (by decide +kernel)) (by decide +kernel)
theorem ms_M_at : Cond.selects "YardActorsModel" y_M_at y_M_at ∈ lg_tbl := lg_in (lw_in2 (i := 233) (by decide +kernel)) (by decide +kernel)
theorem ms_M_waits : Cond.selects "YardActorsModel" y_M_waits y_M_waits ∈ lg_tbl := lg_in (lw_in2 (i := 238) (by decide +kernel)) (by decide +kernel)
theorem ms_M_waiting : Cond.selects "YardActorsModel" y_M_waiting y_M_waiting ∈ lg_tbl := lg_in (lw_in3 (i := 6) (by decide +kernel)) (by decide +kernel)
theorem ms_M_keptAtLast : Cond.selects "YardActorsModel" y_M_keptAtLast y_M_keptAtLast ∈ lg_tbl := lg_in (lw_in3 (i := 10) (by decide +kernel)) (by decide +kernel)
theorem ms_M_atLast : Cond.selects "YardActorsModel" y_M_atLast y_M_atLast ∈ lg_tbl := lg_in (lw_in3 (i := 18) (by decide +kernel)) (by decide +kernel)
theorem ms_M_actedAtLast : Cond.selects "YardActorsModel" y_M_actedAtLast y_M_actedAtLast ∈ lg_tbl := lg_in (lw_in3 (i := 22) (by decide +kernel)) (by decide +kernel)
theorem ms_M_fullAtLast : Cond.selects "YardActorsModel" y_M_fullAtLast y_M_fullAtLast ∈ lg_tbl := lg_in (lw_in3 (i := 26) (by decide +kernel)) (by decide +kernel)
theorem ms_A_hasRoom : Cond.selects "YardActors$Actor" y_A_hasRoom y_A_hasRoom ∈ lg_tbl := lg_in (List.mem_append_left _ (by decide +kernel)) (by decide +kernel)
theorem ms_A_hasValue : Cond.selects "YardActors$Actor" y_A_hasValue y_A_hasValue ∈ lg_tbl := lg_in (List.mem_append_left _ (by decide +kernel)) (by decide +kernel)
theorem ms_A_turn : Cond.selects "YardActors$Actor" y_A_turn y_A_turn ∈ lg_tbl := lg_in (List.mem_append_left _ (by decide +kernel)) (by decide +kernel)
theorem ms_A_isZero : Cond.selects "YardActors$Actor" y_A_isZero y_A_isZero ∈ lg_tbl := lg_in (List.mem_append_left _ (by decide +kernel)) (by decide +kernel)
theorem ms_A_give : Cond.selects "YardActors$Actor" y_A_give y_A_give ∈ lg_tbl := lg_in (List.mem_append_left _ (by decide +kernel)) (by decide +kernel)
theorem ms_A_take : Cond.selects "YardActors$Actor" y_A_take y_A_take ∈ lg_tbl := lg_in (List.mem_append_left _ (by decide +kernel)) (by decide +kernel)
theorem ms_A_keep : Cond.selects "YardActors$Actor" y_A_keep y_A_keep ∈ lg_tbl := lg_in (List.mem_append_left _ (by decide +kernel)) (by decide +kernel)
theorem ms_Y_stepDrawn : Cond.selects "YardActors$Yard" y_Y_stepDrawn y_Y_stepDrawn ∈ lg_tbl := lg_in (List.mem_append_left _ (by decide +kernel)) (by decide +kernel)
theorem ms_Y_listReady : Cond.selects "YardActors$Yard" y_Y_listReady y_Y_listReady ∈ lg_tbl := lg_in (List.mem_append_left _ (by decide +kernel)) (by decide +kernel)
theorem ms_S_settled : Cond.selects "YardActors" y_S_settled y_S_settled ∈ lg_tbl := lg_in (List.mem_append_left _ (by decide +kernel)) (by decide +kernel)
theorem ms_Y_stepRound : Cond.selects "YardActors$Yard" y_Y_stepRound y_Y_stepRound ∈ lg_tbl := lg_in (List.mem_append_left _ (by decide +kernel)) (by decide +kernel)
theorem ms_M_isActor : Cond.selects "YardActorsModel" y_M_isActor y_M_isActor ∈ lg_tbl := lg_in (List.mem_append_left _ (by decide +kernel)) (by decide +kernel)
theorem ms_M_canAct : Cond.selects "YardActorsModel" y_M_canAct y_M_canAct ∈ lg_tbl := lg_in (List.mem_append_left _ (by decide +kernel)) (by decide +kernel)
theorem ms_M_hasRoom : Cond.selects "YardActorsModel" y_M_hasRoom y_M_hasRoom ∈ lg_tbl := lg_in (List.mem_append_left _ (by decide +kernel)) (by decide +kernel)
theorem ms_M_hasValue : Cond.selects "YardActorsModel" y_M_hasValue y_M_hasValue ∈ lg_tbl := lg_in (List.mem_append_left _ (by decide +kernel)) (by decide +kernel)
theorem ms_M_look : Cond.selects "YardActorsModel" y_M_look y_M_look ∈ lg_tbl := lg_in (List.mem_append_left _ (by decide +kernel)) (by decide +kernel)
theorem ms_M_doAct : Cond.selects "YardActorsModel" y_M_doAct y_M_doAct ∈ lg_tbl := lg_in (List.mem_append_left _ (by decide +kernel)) (by decide +kernel)
theorem ms_M_give : Cond.selects "YardActorsModel" y_M_give y_M_give ∈ lg_tbl := lg_in (List.mem_append_left _ (by decide +kernel)) (by decide +kernel)
theorem ms_M_take : Cond.selects "YardActorsModel" y_M_take y_M_take ∈ lg_tbl := lg_in (List.mem_append_left _ (by decide +kernel)) (by decide +kernel)
theorem ms_M_isSink : Cond.selects "YardActorsModel" y_M_isSink y_M_isSink ∈ lg_tbl := lg_in (List.mem_append_left _ (by decide +kernel)) (by decide +kernel)
theorem ms_M_isChannel : Cond.selects "YardActorsModel" y_M_isChannel y_M_isChannel ∈ lg_tbl := lg_in (List.mem_append_left _ (by decide +kernel)) (by decide +kernel)
theorem ms_M_settle : Cond.selects "YardActorsModel" y_M_settle y_M_settle ∈ lg_tbl := lg_in (List.mem_append_left _ (by decide +kernel)) (by decide +kernel)
